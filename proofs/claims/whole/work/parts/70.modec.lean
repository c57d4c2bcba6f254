/-! WHAT THE MODEL FINDS is the RIGHT word within t, if there is one -/
theorem pet_sing {K : Type} [R : Lean.Grind.CommRing K] [Ch : Lean.Grind.IsCharP K 2] {iv : K → K} (hv : Iv K iv) {p : Nat → K} {sy : Nat → Nat} {Y : Nat → K} {e T many : Nat} (hS : ∀ i, 1 ≤ i → i ≤ T → p (sy i) = sm (fun l => Y l ^ i) e) (hm : e < many) (hmT : 2 * many ≤ T) {A : Nat → Nat → Nat} (hA : ∀ a b, a < many → b ≤ many → A a b = sy (1 + a + b)) : ∃ v : Nat → K, Kr p many A v ∧ v many = 0 ∧ ∃ b, b < many ∧ v b ≠ 0 := by
  refine ⟨fun b => if b < many then lam Y e (many - 1 - b) else 0, fun a ha => ?_, if_neg (Nat.lt_irrefl _), many - 1, by omega, ?_⟩
  · show sm (fun b => p (A a b) * (if b < many then lam Y e (many - 1 - b) else 0)) many + p (A a many) * (if many < many then lam Y e (many - 1 - many) else 0) = 0
    rw [if_neg (Nat.lt_irrefl _), ← sm_rev]
    have e1 : sm (fun j => p (A a (many - 1 - j)) * (if many - 1 - j < many then lam Y e (many - 1 - (many - 1 - j)) else 0)) many = sm (fun j => lam Y e j * p (sy (a + many - j))) many := sm_congr _ (fun j hj => by
      rw [if_pos (by omega), hA a (many - 1 - j) ha (by omega), show many - 1 - (many - 1 - j) = j by omega, show 1 + a + (many - 1 - j) = a + many - j by omega]
      grind)
    have e2 := sm_more (f := fun j => lam Y e j * p (sy (a + many - j))) (n := e + 1) (many - (e + 1)) (fun j h1 h2 => by rw [lam_hi e j (by omega)]; grind)
    rw [show e + 1 + (many - (e + 1)) = many by omega] at e2
    have e3 := lam_gn (S := fun i => p (sy i)) hS (a + many) (by omega) (by omega)
    rw [e1, e2, e3]
    grind
  · show (if many - 1 < many then lam Y e (many - 1 - (many - 1)) else 0) ≠ 0
    rw [if_pos (by omega), Nat.sub_self, lam_0]
    exact hv.2
theorem pet_ev {K : Type} [R : Lean.Grind.CommRing K] [Ch : Lean.Grind.IsCharP K 2] {iv : K → K} (hv : Iv K iv) {p : Nat → K} {sy : Nat → Nat} {Y : Nat → K} {e T : Nat} (hD : Df Y e) (hS : ∀ i, 1 ≤ i → i ≤ T → p (sy i) = sm (fun l => Y l ^ i) e) (hmT : 2 * e ≤ T) {A : Nat → Nat → Nat} (hA : ∀ a b, a < e → b ≤ e → A a b = sy (1 + a + b)) {v : Nat → K} (hk : Kr p e A v) : ∀ l, l < e → sm (fun b => v b * Y l ^ b) (e + 1) = 0 := by
  refine vand hv (a := 1) e (fun l => sm (fun b => v b * Y l ^ b) (e + 1)) hD (fun i h1 h2 => ?_)
  have h := hk (i - 1) (by omega)
  rw [← h]
  have e1 : sm (fun b => p (A (i - 1) b) * v b) (e + 1) = sm (fun b => sm (fun l => v b * Y l ^ b * Y l ^ i) e) (e + 1) := sm_congr _ (fun b hb => by
    rw [hA (i - 1) b (by omega) (by omega), hS _ (by omega) (by omega), show sm (fun l => Y l ^ (1 + (i - 1) + b)) e * v b = v b * sm (fun l => Y l ^ (1 + (i - 1) + b)) e by grind, ← sm_mul]
    refine sm_congr _ (fun l _ => ?_)
    rw [show 1 + (i - 1) + b = b + i by omega, pw_add]
    grind)
  rw [e1, sm_swap]
  refine sm_congr _ (fun l _ => ?_)
  show sm (fun b => v b * Y l ^ b) (e + 1) * Y l ^ i = sm (fun b => v b * Y l ^ b * Y l ^ i) (e + 1)
  rw [show sm (fun b => v b * Y l ^ b) (e + 1) * Y l ^ i = Y l ^ i * sm (fun b => v b * Y l ^ b) (e + 1) by grind, ← sm_mul]
  exact sm_congr _ (fun b _ => by grind)
theorem fe_lev {K : Type} [R : Lean.Grind.CommRing K] {iv : K → K} (hv : Iv K iv) {m : Nat} {p : Nat → K} (hp : Hm m p) (h3 : 3 ≤ m) (h13 : m ≤ 13) {lo : Nat → Nat} {q : Nat} : ∀ k, (∀ j, j < k → lo j < 2 ^ m) → p (lev m lo q k) = sm (fun j => p (lo j) * iv (p (pwr m q)) ^ j) k
  | 0, _ => hp.2.2.1
  | k + 1, h => by
    have ht := two_le h3 h13
    show p (lev m lo q k ^^^ fmul m (lo k) (pwr m ((2 ^ m - 1 - k * q % (2 ^ m - 1)) % (2 ^ m - 1)))) = sm (fun j => p (lo j) * iv (p (pwr m q)) ^ j) k + p (lo k) * iv (p (pwr m q)) ^ k
    rw [hp.1, hp.2.1 _ _ (h k (by omega)) (pwr_lt h3 h13 _), fe_lev hv hp h3 h13 k (fun j hj => h j (by omega))]
    congr 2
    have hl := Nat.mod_lt (k * q) (show 0 < 2 ^ m - 1 by omega)
    have e1 : p (pwr m ((2 ^ m - 1 - k * q % (2 ^ m - 1)) % (2 ^ m - 1))) * p (pwr m q) ^ k = 1 := by
      rw [← hp.pw h3 h13 q k, ← hp.2.1 _ _ (pwr_lt h3 h13 _) (pwr_lt h3 h13 _), pwr_mod h3 h13, Nat.mul_comm, ← pwr_mod h3 h13 (q * k), fmul_pwr h3 h13, show 2 ^ m - 1 - q * k % (2 ^ m - 1) + q * k % (2 ^ m - 1) = 2 ^ m - 1 by rw [Nat.mul_comm] at hl; omega, (pwr_ord h3 h13).2]
      exact hp.2.2.2.1
    have e2 : p (pwr m q) ^ k * iv (p (pwr m q)) ^ k = 1 := by rw [← mul_pw, hv.1 _ (hp.ne h3 h13 _), one_pw]
    obtain ⟨x, hx⟩ : ∃ x, x = p (pwr m ((2 ^ m - 1 - k * q % (2 ^ m - 1)) % (2 ^ m - 1))) := ⟨_, rfl⟩
    rw [← hx] at e1 ⊢
    have e3 : x = x * (p (pwr m q) ^ k * iv (p (pwr m q)) ^ k) := by rw [e2]; grind
    rw [e3, show x * (p (pwr m q) ^ k * iv (p (pwr m q)) ^ k) = (x * p (pwr m q) ^ k) * iv (p (pwr m q)) ^ k by grind, e1]
    grind
theorem msr_ok {K : Type} [R : Lean.Grind.CommRing K] [Ch : Lean.Grind.IsCharP K 2] {iv : K → K} (hv : Iv K iv) {m t n : Nat} {p : Nat → K} (hp : Hm m p) (h3 : 3 ≤ m) (h13 : m ≤ 13) {sy : Nat → Nat} (hsb : ∀ j, 1 ≤ j → j ≤ 2 * t → sy j < 2 ^ m) {E : Nat → Bool} (hE1 : 1 ≤ cnt E n) (hn : n ≤ 2 ^ m - 1) (hS : ∀ i, 1 ≤ i → i ≤ 2 * t → p (sy i) = sm (fun l => p (pwr m (n - 1 - nth E n l)) ^ i) (cnt E n)) : ∀ (k : Nat) (s : (Nat → Nat) × (Nat → Nat)), cnt E n ≤ k → k ≤ t → (msr m sy k s).1 = cnt E n ∧ ∀ q, q < n → (lev m (msr m sy k s).2.2 q (cnt E n + 1) = 0 ↔ E (n - 1 - q) = true)
  | 0, s, h1, _ => absurd h1 (by omega)
  | k + 1, s, h1, h2 => by
    obtain ⟨e, he⟩ : ∃ e, e = cnt E n := ⟨_, rfl⟩
    obtain ⟨Y, hY⟩ : ∃ Y : Nat → K, Y = fun l => p (pwr m (n - 1 - nth E n l)) := ⟨_, rfl⟩
    have hD : Df Y e := by rw [hY, he]; exact Df.nth hp h3 h13 hn (fun l hl => (nth_spec n l hl).1) (fun l k h1 h2 => Nat.ne_of_lt (nth_mono n l k h1 h2))
    have hS' : ∀ i, 1 ≤ i → i ≤ 2 * t → p (sy i) = sm (fun l => Y l ^ i) e := fun i a b => by rw [hS i a b, hY, he]
    obtain ⟨A, hA⟩ : ∃ A : Nat → Nat → Nat, A = fA (fun a b => s.1 (9 * a + b)) sy (k + 1) (k + 1) 0 := ⟨_, rfl⟩
    have hAs : ∀ a b, a < k + 1 → b ≤ k + 1 → A a b = sy (1 + a + b) := fun a b ha hb => by rw [hA]; unfold fA; rw [if_pos (by omega)]
    have hAb : Mb m (k + 1) A := fun a b ha hb => by rw [hAs a b ha hb]; exact hsb _ (by omega) (by omega)
    have hsp := gjl_spec hv hp h3 h13 (many := k + 1) (k + 1) 0 A (by omega) hAb (fun a b _ hb => absurd hb (by omega))
    have e2 : (svs m sy (k + 1) s).2 = (gjl m (k + 1) (k + 1) 0 A).2 := by rw [hA]; rfl
    have hun : msr m sy (k + 1) s = if (svs m sy (k + 1) s).2 then (k + 1, (svs m sy (k + 1) s).1) else msr m sy k (svs m sy (k + 1) s).1 := rfl
    by_cases hek : cnt E n = k + 1
    · rw [← he] at hek ⊢
      have htr : (gjl m (k + 1) (k + 1) 0 A).2 = true := by
        cases hg : (gjl m (k + 1) (k + 1) 0 A).2 with
        | true => rfl
        | false =>
          obtain ⟨v, g1, g2, b, g3, g4⟩ := hsp.2 hg
          rw [← hek] at g1 g2 g3
          have g5 := pet_ev hv hD hS' (by omega) (fun a b ha hb => hAs a b (by omega) (by omega)) g1
          exact absurd (roots hv hD (p := v) (fun l hl => by
            have := g5 l hl
            have h6 : sm (fun b => v b * Y l ^ b) e + v e * Y l ^ e = 0 := this
            rw [g2] at h6
            rw [← h6]; grind) b g3) g4
      rw [hun, if_pos (e2.trans htr)]
      refine ⟨hek.symm, fun q hq => ?_⟩
      obtain ⟨hId, hKr⟩ := hsp.1 htr
      obtain ⟨B, hB⟩ : ∃ B, B = (gjl m (k + 1) (k + 1) 0 A).1 := ⟨_, rfl⟩
      rw [← hB] at hId hKr
      have hBb : Mb m (k + 1) B := by rw [hB]; exact gjl_Mb h3 h13 (k + 1) 0 A (by omega) hAb
      have hlo : ∀ j, j ≤ e → (svs m sy (k + 1) s).1.2 j = if j = 0 then 1 else B (e - j) e := fun j hj => by
        show glo s.2 (gjl m (k + 1) (k + 1) 0 (fA (fun a b => s.1 (9 * a + b)) sy (k + 1) (k + 1) 0)) (k + 1) j = _
        rw [← hA]
        unfold glo
        rw [if_pos htr, ← hB]
        unfold gjo
        by_cases h0 : j = 0
        · rw [if_pos h0, if_pos h0]
        · rw [if_neg h0, if_neg h0, if_pos (by omega), hek]
      obtain ⟨u, hu⟩ : ∃ u : Nat → K, u = fun b => if b < e then p (B b e) else 1 := ⟨_, rfl⟩
      have hKu : Kr p e A u := by
        rw [hek]
        refine (hKr u).mpr (fun a ha => ?_)
        rw [Kr.un hp hId ha, hu]
        show (if a < e then p (B a e) else 1) + p (B a (k + 1)) * (if k + 1 < e then p (B (k + 1) e) else 1) = 0
        rw [if_pos (by omega), if_neg (by omega), hek]
        rw [show p (B a (k + 1)) * 1 = p (B a (k + 1)) by grind]
        exact ad_self _
      have hUY := pet_ev hv hD hS' (by omega) (fun a b ha hb => hAs a b (by omega) (by omega)) hKu
      have hev : ∀ q, lev m (svs m sy (k + 1) s).1.2 q (e + 1) = 0 ↔ sm (fun b => u b * p (pwr m q) ^ b) (e + 1) = 0 := fun q => by
        have hlb : ∀ j, j < e + 1 → (svs m sy (k + 1) s).1.2 j < 2 ^ m := fun j hj => by
          rw [hlo j (by omega)]
          split
          · have := two_le h3 h13; omega
          · exact hBb _ _ (by omega) (by omega)
        have a1 := fe_lev hv hp h3 h13 (lo := (svs m sy (k + 1) s).1.2) (q := q) (e + 1) hlb
        have hz := hp.ne h3 h13 q
        obtain ⟨Z, hZ⟩ : ∃ Z, Z = p (pwr m q) := ⟨_, rfl⟩
        rw [← hZ] at a1 hz ⊢
        have a2 : Z ^ e * sm (fun j => p ((svs m sy (k + 1) s).1.2 j) * iv Z ^ j) (e + 1) = sm (fun b => u b * Z ^ b) (e + 1) := by
          rw [← sm_mul, ← sm_rev (f := fun b => u b * Z ^ b)]
          refine sm_congr _ (fun j hj => ?_)
          have b1 : p ((svs m sy (k + 1) s).1.2 j) = u (e + 1 - 1 - j) := by
            rw [hlo j (by omega), hu]
            show _ = if e + 1 - 1 - j < e then p (B (e + 1 - 1 - j) e) else 1
            by_cases h0 : j = 0
            · rw [if_pos h0, if_neg (by omega)]; exact hp.2.2.2.1
            · rw [if_neg h0, if_pos (by omega), show e + 1 - 1 - j = e - j by omega]
          have b2 : Z ^ e = Z ^ (e + 1 - 1 - j) * Z ^ j := by rw [← pw_add, show e + 1 - 1 - j + j = e by omega]
          have b3 : Z ^ j * iv Z ^ j = 1 := by rw [← mul_pw, hv.1 Z hz, one_pw]
          rw [b1, b2, show Z ^ (e + 1 - 1 - j) * Z ^ j * (u (e + 1 - 1 - j) * iv Z ^ j) = u (e + 1 - 1 - j) * Z ^ (e + 1 - 1 - j) * (Z ^ j * iv Z ^ j) by grind, b3]
          grind
        rw [← a2, ← a1]
        have hll := lev_lt h3 h13 (lo := (svs m sy (k + 1) s).1.2) (e := q) (e + 1)
        exact ⟨fun z => by rw [z, hp.2.2.1]; grind, fun z => hp.2.2.2.2 _ hll (mu_0 hv z (pw_ne hv hz e))⟩
      show lev m (svs m sy (k + 1) s).1.2 q (e + 1) = 0 ↔ _
      rw [hev q]
      refine ⟨fun h => ?_, fun h => ?_⟩
      · cases hEq : E (n - 1 - q) with
        | true => rfl
        | false =>
          exfalso
          have := roots hv (X := fun l => if l < e then Y l else p (pwr m q)) (n := e + 1) (p := u) (by
            have e3 : (fun l => if l < e then Y l else p (pwr m q)) = fun l => p (pwr m (n - 1 - (if l < e then nth E n l else n - 1 - q))) := by
              funext l
              by_cases h : l < e
              · rw [if_pos h, if_pos h, hY]
              · rw [if_neg h, if_neg h, show n - 1 - (n - 1 - q) = q by omega]
            rw [e3]
            refine Df.nth hp h3 h13 hn (fun l hl => ?_) (fun l k' h1 h2 => ?_)
            · split
              · rename_i h; exact (nth_spec n l (by omega)).1
              · omega
            · rw [if_pos (by omega)]
              split
              · rename_i h; exact Nat.ne_of_lt (nth_mono n l k' h1 (by omega))
              · intro z
                have := (nth_spec (E := E) n l (by omega)).2
                rw [z, hEq] at this
                cases this) (fun l hl => by
              show sm (fun j => u j * (if l < e then Y l else p (pwr m q)) ^ j) (e + 1) = 0
              by_cases h' : l < e
              · rw [if_pos h']; exact hUY l h'
              · rw [if_neg h']; exact h) e (by omega)
          rw [hu] at this
          have h7 : (if e < e then p (B e e) else (1 : K)) = 0 := this
          rw [if_neg (Nat.lt_irrefl _)] at h7
          exact hv.2 h7
      · obtain ⟨l, h5, h6⟩ := nth_sur (E := E) n (n - 1 - q) (by omega) h
        have := hUY l (by omega)
        rw [hY] at this
        have h8 : sm (fun b => u b * p (pwr m (n - 1 - nth E n l)) ^ b) (e + 1) = 0 := this
        rw [h6, show n - 1 - (n - 1 - q) = q by omega] at h8
        exact h8
    · have hfl : (gjl m (k + 1) (k + 1) 0 A).2 = false := by
        cases hg : (gjl m (k + 1) (k + 1) 0 A).2 with
        | false => rfl
        | true =>
          obtain ⟨hId, hKr⟩ := hsp.1 hg
          obtain ⟨v, g1, g2, b, g3, g4⟩ := pet_sing hv hS' (many := k + 1) (by omega) (by omega) hAs
          have g5 := (hKr v).mp g1 b g3
          rw [Kr.un hp hId g3, g2] at g5
          exact absurd (show v b = 0 by rw [← g5]; grind) g4
      rw [hun, if_neg (by rw [e2, hfl]; decide)]
      exact msr_ok hv hp h3 h13 hsb hE1 hn hS k _ (by omega) (by omega)
theorem wsm_cg {m n i : Nat} {v w : Nat → Bool} : ∀ k, (∀ j, j < k → v j = w j) → wsm m v n i k = wsm m w n i k
  | 0, _ => rfl
  | k + 1, h => by
    show wsm m v n i k ^^^ (if v k then 0 else pwr m ((n - 1 - k) * i)) = wsm m w n i k ^^^ (if w k then 0 else pwr m ((n - 1 - k) * i))
    rw [wsm_cg k (fun j hj => h j (by omega)), h k (by omega)]
theorem Rt.cg {m t n : Nat} {v w : Nat → Bool} (h : Rt m t n v) (he : ∀ j, j < n → v j = w j) : Rt m t n w := fun i h1 h2 => by rw [← wsm_cg n he]; exact h i h1 h2
theorem wrt_iff {m n : Nat} {w : Nat → Bool} : ∀ q, wrt m w n q = true ↔ ∀ i, 1 ≤ i → i ≤ q → wsm m w n i n = 0
  | 0 => ⟨fun _ i h1 h2 => absurd h1 (by omega), fun _ => rfl⟩
  | q + 1 => by
    show (wrt m w n q && decide (wsm m w n (q + 1) n = 0)) = true ↔ _
    rw [Bool.and_eq_true, wrt_iff q, decide_eq_true_iff]
    refine ⟨fun h i h1 h2 => ?_, fun h => ⟨fun i h1 h2 => h i h1 (by omega), h (q + 1) (by omega) (by omega)⟩⟩
    by_cases hi : i = q + 1
    · rw [hi]; exact h.2
    · exact h.1 i h1 (by omega)
theorem msc_spec {m n many : Nat} {lo : Nat → Nat} {w : Nat → Bool} : ∀ q, q ≤ n → (msc m lo n many w q).1 = cnt (fun x => decide (lev m lo x (many + 1) = 0)) q ∧ ∀ j, (msc m lo n many w q).2 j = (w j ^^ (decide (n - q ≤ j ∧ j < n) && decide (lev m lo (n - 1 - j) (many + 1) = 0)))
  | 0, _ => ⟨rfl, fun j => by
    show w j = _
    rw [show decide (n - 0 ≤ j ∧ j < n) = false from decide_eq_false (by omega)]
    cases w j <;> rfl⟩
  | q + 1, h => by
    obtain ⟨h1, h2⟩ := msc_spec (m := m) (n := n) (many := many) (lo := lo) (w := w) q (by omega)
    have e1 : msc m lo n many w (q + 1) = if lev m lo q (many + 1) = 0 then ((msc m lo n many w q).1 + 1, bup (msc m lo n many w q).2 (n - 1 - q) (!((msc m lo n many w q).2 (n - 1 - q)))) else msc m lo n many w q := rfl
    rw [e1]
    by_cases hz : lev m lo q (many + 1) = 0
    · rw [if_pos hz, cnt_t (decide_eq_true hz)]
      refine ⟨by show _ + 1 = _; rw [h1], fun j => ?_⟩
      show bup (msc m lo n many w q).2 (n - 1 - q) (!((msc m lo n many w q).2 (n - 1 - q))) j = _
      unfold bup
      by_cases hj : j = n - 1 - q
      · rw [if_pos hj, h2, hj, show n - 1 - (n - 1 - q) = q by omega, decide_eq_true hz, decide_eq_false (show ¬ (n - q ≤ n - 1 - q ∧ n - 1 - q < n) by omega), decide_eq_true (show n - (q + 1) ≤ n - 1 - q ∧ n - 1 - q < n by omega)]
        cases w (n - 1 - q) <;> rfl
      · rw [if_neg hj, h2]
        congr 2
        exact decide_eq_decide.mpr (by omega)
    · rw [if_neg hz, cnt_f (decide_eq_false hz)]
      refine ⟨h1, fun j => ?_⟩
      rw [h2]
      by_cases hj : j = n - 1 - q
      · rw [hj, show n - 1 - (n - 1 - q) = q by omega, decide_eq_false hz, Bool.and_false, Bool.and_false]
      · congr 2
        exact decide_eq_decide.mpr (by omega)
theorem mo_dec {m t n : Nat} (h3 : 3 ≤ m) (h13 : m ≤ 13) (hn : n ≤ 2 ^ m - 1) {s : Mi} :
    ((imd m t n s).2 = true → Rt m t n (imd m t n s).1.1 ∧ cnt (fun k => s.1 k ^^ (imd m t n s).1.1 k) n ≤ t) ∧
    (∀ v, Rt m t n v → cnt (fun k => s.1 k ^^ v k) n ≤ t → (imd m t n s).2 = true) := by
  letI := FF.ring h3 h13
  letI := FF.chr h3 h13
  have hp := FF.hm h3 h13
  have hv := FF.iv h3 h13
  have hwb : ∀ j, 1 ≤ j → j ≤ 2 * t → wsy m s.1 n s.2.1 (2 * t) j < 2 ^ m := fun j h1 h2 => by unfold wsy; rw [if_pos ⟨h1, h2⟩]; exact wsm_lt h3 h13 n
  have hml := msr_lo h3 h13 t s.2.2 hwb
  have hmc := msc_spec (m := m) (n := n) (many := (imr m t n s).1) (lo := (imr m t n s).2.2) (w := s.1) n (Nat.le_refl _)
  have hun : imd m t n s = if wrt m s.1 n (2 * t) then ((s.1, wsy m s.1 n s.2.1 (2 * t), s.2.2), true)
      else if (imr m t n s).1 = 0 then ((s.1, wsy m s.1 n s.2.1 (2 * t), (imr m t n s).2), false)
      else if (imc m t n s).1 = (imr m t n s).1 then (((imc m t n s).2, wsy m (imc m t n s).2 n (wsy m s.1 n s.2.1 (2 * t)) (2 * t), (imr m t n s).2), wrt m (imc m t n s).2 n (2 * t))
      else (((imc m t n s).2, wsy m s.1 n s.2.1 (2 * t), (imr m t n s).2), false) := rfl
  rw [hun]
  by_cases hw : wrt m s.1 n (2 * t) = true
  · rw [if_pos hw]
    refine ⟨fun _ => ⟨(wrt_iff _).mp hw, ?_⟩, fun _ _ _ => rfl⟩
    have := vfl_cnt (w := s.1) (Y := fun _ => false) (f := fun _ => 0) (n := n) 0
    exact Nat.le_trans this (Nat.zero_le _)
  · rw [if_neg hw]
    refine ⟨fun h => ?_, fun v hr hd => ?_⟩
    · by_cases h0 : (imr m t n s).1 = 0
      · rw [if_pos h0] at h; exact absurd h (by show ¬ false = true; decide)
      · rw [if_neg h0] at h ⊢
        by_cases h1 : (imc m t n s).1 = (imr m t n s).1
        · rw [if_pos h1] at h ⊢
          refine ⟨(wrt_iff _).mp h, ?_⟩
          show cnt (fun k => s.1 k ^^ (imc m t n s).2 k) n ≤ t
          rw [cnt_congr (q := fun k => decide (lev m (imr m t n s).2.2 (n - 1 - k) ((imr m t n s).1 + 1) = 0)) n (fun k hk => by
            show (s.1 k ^^ (msc m (imr m t n s).2.2 n (imr m t n s).1 s.1 n).2 k) = _
            rw [hmc.2 k, decide_eq_true (show n - n ≤ k ∧ k < n by omega)]
            cases s.1 k <;> cases decide (lev m (imr m t n s).2.2 (n - 1 - k) ((imr m t n s).1 + 1) = 0) <;> rfl), cnt_rev (E := fun x => decide (lev m (imr m t n s).2.2 x ((imr m t n s).1 + 1) = 0)), ← hmc.1]
          exact Nat.le_trans (Nat.le_of_eq h1) hml.1
        · rw [if_neg h1] at h; exact absurd h (by show ¬ false = true; decide)
    · obtain ⟨E, hE⟩ : ∃ E : Nat → Bool, E = fun k => s.1 k ^^ v k := ⟨_, rfl⟩
      rw [← hE] at hd
      have hE1 : 1 ≤ cnt E n := by
        rcases Nat.eq_zero_or_pos (cnt E n) with h | h
        · exfalso
          refine hw ((wrt_iff _).mpr (hr.cg (fun j hj => ?_)))
          have := cnt_zero n h j hj
          rw [hE] at this
          have h9 : (s.1 j ^^ v j) = false := this
          cases h5 : s.1 j <;> cases h6 : v j <;> simp_all
        · exact h
      have hS : ∀ i, 1 ≤ i → i ≤ 2 * t → fe m (wsy m s.1 n s.2.1 (2 * t) i) = sm (fun l => fe m (pwr m (n - 1 - nth E n l)) ^ i) (cnt E n) := fun i h1 h2 => by
        have e := fe_two hp h3 h13 (v := v) (w := s.1) (n := n) (i := i)
        rw [hr i h1 h2, hp.2.2.1, ← hE] at e
        unfold wsy
        rw [if_pos ⟨h1, h2⟩, ← e]
        grind
      obtain ⟨g1, g2⟩ := msr_ok hv hp h3 h13 hwb hE1 hn hS t s.2.2 hd (Nat.le_refl _)
      have g1' : (imr m t n s).1 = cnt E n := g1
      have g2' : ∀ q, q < n → (lev m (imr m t n s).2.2 q (cnt E n + 1) = 0 ↔ E (n - 1 - q) = true) := g2
      have hcE : (imc m t n s).1 = (imr m t n s).1 := by
        show (msc m (imr m t n s).2.2 n (imr m t n s).1 s.1 n).1 = _
        rw [hmc.1, g1']
        refine (cnt_congr (q := fun k => E (n - 1 - k)) n (fun q hq => ?_)).trans (cnt_rev n)
        exact (by
          have := g2' q hq
          cases h5 : E (n - 1 - q)
          · exact decide_eq_false (fun z => by rw [h5] at this; exact absurd (this.mp z) (by decide))
          · exact decide_eq_true (this.mpr h5))
      rw [if_neg (by omega), if_pos hcE]
      refine (wrt_iff _).mpr (hr.cg (fun j hj => ?_))
      show v j = (msc m (imr m t n s).2.2 n (imr m t n s).1 s.1 n).2 j
      rw [hmc.2 j, decide_eq_true (show n - n ≤ j ∧ j < n by omega), g1']
      have := g2' (n - 1 - j) (by omega)
      rw [show n - 1 - (n - 1 - j) = j by omega] at this
      have h7 : decide (lev m (imr m t n s).2.2 (n - 1 - j) (cnt E n + 1) = 0) = E j := by
        cases h5 : E j
        · exact decide_eq_false (fun z => by rw [h5] at this; exact absurd (this.mp z) (by decide))
        · exact decide_eq_true (this.mpr h5)
      rw [h7, hE]
      show v j = (s.1 j ^^ (true && (s.1 j ^^ v j)))
      cases s.1 j <;> cases v j <;> rfl
