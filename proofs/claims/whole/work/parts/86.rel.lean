/-! WHAT CLASS AND MODEL HOLD: the relations, and what the calls do to them -/
theorem inl_ex {z : Int32} {n : Nat} (h : inl_ z n = true) : ∃ a, a < n ∧ z = nI a := by
  unfold inl_ at h
  rw [decide_eq_true_iff] at h
  have h2 := Int32.toInt_lt z
  refine ⟨z.toInt.toNat, by omega, Int32.toInt_inj.mp ?_⟩
  rw [nI_toInt (by omega)]; omega
theorem inr_ex {z : Int32} {n : Nat} (h : inr_ z n = true) : ∃ a, a ≤ n ∧ z = nI a := by
  unfold inr_ at h
  rw [decide_eq_true_iff] at h
  have h2 := Int32.toInt_lt z
  refine ⟨z.toInt.toNat, by omega, Int32.toInt_inj.mp ?_⟩
  rw [nI_toInt (by omega)]; omega
def BU (d n : Nat) (uf : Nat → Int64) (bu : Nat → Nat) : Prop := (∀ i, i < 256 → bu i < 256) ∧ (∀ k, k < 8 * d → rb uf k = dbit bu k) ∧ ∀ k, n ≤ k → k < 2176 → rb uf k = false
def TU (n : Nat) (tf : Nat → Int64) (tu : Nat → Nat) (tn : Nat) : Prop := tn = cnt (rb tf) n ∧ ∀ l, l < tn → tu l = nth (rb tf) n l
theorem BU.st {d n : Nat} {uf : Nat → Int64} {bu : Nat → Nat} (h : BU d n uf bu) (hn : 8 * d ≤ n) {i b : Nat} (hi : i < d) (hb : b < 256) : BU d n (rsetb uf i b) (nup bu i b) := by
  refine ⟨fun j hj => ?_, fun k hk => ?_, fun k h1 h2 => ?_⟩
  · unfold nup; split
    · exact hb
    · exact h.1 j hj
  · rw [rb_setb uf i hb]
    unfold dbit nup
    by_cases hk2 : k / 8 = i
    · rw [if_pos hk2, if_pos hk2]
    · rw [if_neg hk2, if_neg hk2]; exact h.2.1 k hk
  · rw [rb_setb uf i hb, if_neg (by omega)]; exact h.2.2 k h1 h2
theorem BU.by_ {d n : Nat} {uf : Nat → Int64} {bu : Nat → Nat} (h : BU d n uf bu) (hd : d ≤ 256) {i : Nat} (hi : i < d) : rby uf i = bu i := by
  refine Nat.eq_of_testBit_eq (fun b => ?_)
  by_cases hb : b < 8
  · have e := h.2.1 (8 * i + (7 - b)) (by omega)
    rw [← rby_bit uf i (show 7 - b < 8 by omega)] at e
    unfold dbit at e
    rw [show 7 - (7 - b) = b by omega, show (8 * i + (7 - b)) / 8 = i by omega, show 7 - (8 * i + (7 - b)) % 8 = b by omega] at e
    exact e
  · have h1 : 2 ^ 8 ≤ 2 ^ b := Nat.pow_le_pow_right (by decide) (by omega)
    rw [Nat.testBit_lt_two_pow (Nat.lt_of_lt_of_le (rby_lt uf i) h1), Nat.testBit_lt_two_pow (Nat.lt_of_lt_of_le (h.1 i (by omega)) h1)]
theorem b255_lt (z : Int32) : b255 z < 256 := Nat.mod_lt _ (by decide)
theorem BU.fil {d n : Nat} {uf : Nat → Int64} {bu : Nat → Nat} (h : BU d n uf bu) (hn : 8 * d ≤ n) {i : Nat} {v : Int64} : ∀ j, i + j ≤ d → BU d n (rfil uf i v j) (bfl bu i v j)
  | 0, _ => h
  | j + 1, hj => (BU.fil h hn j (by omega)).st hn (by omega) (Nat.mod_lt _ (by decide))
theorem rb_cmp (f : Nat → Int64) (hi lo : Int64) (d k : Nat) : ∀ q, rb (cmp f hi lo d q) k = if 8 * d ≤ k ∧ k < 8 * d + q then !(rgb hi lo (k - 8 * d)) else rb f k
  | 0 => by show rb f k = _; rw [if_neg (by omega)]
  | q + 1 => by
    show rb (rset (cmp f hi lo d q) (8 * d + q) (!(rgb hi lo q))) k = _
    rw [rb_set, rb_cmp f hi lo d k q]
    by_cases h : k = 8 * d + q
    · rw [if_pos h, if_pos (by omega), show k - 8 * d = q by omega]
    · rw [if_neg h]
      by_cases h2 : 8 * d ≤ k ∧ k < 8 * d + q
      · rw [if_pos h2, if_pos (by omega)]
      · rw [if_neg h2, if_neg (by omega)]
theorem tail_eq {m t d r n : Nat} {gp gg : Nat → Bool} {hs ls : Nat → Int64} (h : CK m t d r n gp hs ls) (hg : ∀ j, j < 210 → gg j = (gst m t).1.testBit j) {uf : Nat → Int64} {bu : Nat → Nat} (hB : BU d n uf bu) {wd le : Nat → Bool} {k : Nat} (hk : k < 2176) : rb (cmp uf (tkd hs ls uf d).1 (tkd hs ls uf d).2 d r) k = (decide (k < n) && ctl (cwd bu wd (8 * d)) (cle bu gg le r (8 * d)) d r r k) := by
  have hb := h.b
  have hreg := h.reg uf
  obtain ⟨h3, h13, h1, h8, _, _, hr, hn, _, hgp, _⟩ := h
  rw [rb_cmp]
  by_cases h1 : k < 8 * d
  · rw [if_neg (by omega), decide_eq_true (by omega), Bool.true_and, hB.2.1 k h1]
    unfold ctl
    rw [if_neg (by omega)]
    unfold cwd
    rw [if_pos h1]
  · by_cases h2 : k < n
    · rw [if_pos (by omega), decide_eq_true h2, Bool.true_and]
      unfold ctl
      rw [if_pos (by omega)]
      have e1 : rgb (tkd hs ls uf d).1 (tkd hs ls uf d).2 (k - 8 * d) = brg (pqr gp r) (rb uf) (8 * d) (k - 8 * d) := by rw [rgb_RG (by omega), hreg]
      have e2 : pqr gg r = pqr gp r := by
        funext q
        unfold pqr
        by_cases hq : q < r
        · rw [hg _ (by omega), hgp]
        · rw [decide_eq_false hq, Bool.false_and, Bool.false_and]
      have e3 := cle_brg (bu := bu) (gg := gg) (le := le) (w := rb uf) hb.1 (by omega) (8 * d) (fun j hj => hB.2.1 j hj) (r - 1 - (k - 8 * d)) (by omega)
      rw [e3, e2, e1, show r - 1 - (r - 1 - (k - 8 * d)) = k - 8 * d by omega]
    · rw [if_neg (by omega), decide_eq_false h2, Bool.false_and]
      exact hB.2.2 k (by omega) hk
theorem BU.tl {m t d r n : Nat} {gp gg : Nat → Bool} {hs ls : Nat → Int64} (h : CK m t d r n gp hs ls) {uf : Nat → Int64} {bu : Nat → Nat} (hB : BU d n uf bu) {hi lo : Int64} : BU d n (cmp uf hi lo d r) bu := by
  have hn : n = 8 * d + r := h.2.2.2.2.2.2.2.1
  refine ⟨hB.1, fun k hk => ?_, fun k h1 h2 => ?_⟩
  · rw [rb_cmp, if_neg (by omega)]; exact hB.2.1 k hk
  · rw [rb_cmp, if_neg (by omega)]; exact hB.2.2 k h1 h2
theorem PB.cg {n : Nat} {bf sf kf : Nat → Int64} {bb bb' : Nat → Bool} {ss ss' : Nat → Int32} {kk kk' : Nat → Bool} {u : Nat} (h : PB n bf sf kf bb ss kk u) (h1 : ∀ k, k < 2176 → bb' (2200 * u + k) = bb (2200 * u + k)) (h2 : ∀ k, k < 2176 → ss' (2200 * u + k) = ss (2200 * u + k)) (h3 : ∀ k, k < 2176 → kk' (2200 * u + k) = kk (2200 * u + k)) : PB n bf sf kf bb' ss' kk' u := fun k hk => by
  rw [h1 k hk, h2 k hk, h3 k hk]; exact h k hk
theorem PB.prog {n : Nat} {bf sf kf : Nat → Int64} {bb : Nat → Bool} {ss : Nat → Int32} {kk : Nat → Bool} {u : Nat} (h : PB n bf sf kf bb ss kk u) (hn : n ≤ 2176) {W : Nat → Int64} {w : Nat → Bool} (hW : ∀ k, k < 2176 → rb W k = (decide (k < n) && w k)) : PB n (rpg bf W sf 34) sf kf (pgb bb ss w u n) ss kk u ∧ rones (fun j => rpg bf W sf 34 j ^^^ W j) 34 = cnt (fun q => pgv bb ss w u q ^^ w q) n := by
  have e : ∀ k, k < 2176 → rb (rpg bf W sf 34) k = (decide (k < n) && pgv bb ss w u k) := fun k hk => by
    rw [rb_rpg bf W sf hk, (h k hk).1, (h k hk).2.1, hW k hk]
    unfold pgv
    by_cases hs : ss (2200 * u + k) = -1
    · rw [if_pos hs, decide_eq_false (show ¬ ss (2200 * u + k) ≠ -1 from fun z => z hs)]
      cases decide (k < n) <;> cases bb (2200 * u + k) <;> cases w k <;> rfl
    · rw [if_neg hs, decide_eq_true hs]
      cases decide (k < n) <;> cases bb (2200 * u + k) <;> cases w k <;> rfl
  refine ⟨fun k hk => ⟨?_, (h k hk).2⟩, rones_n hn (fun k hk => ?_)⟩
  · rw [e k hk]
    by_cases hkn : k < n
    · congr 1
      unfold pgb
      rw [if_pos (by omega), show 2200 * u + k - 2200 * u = k by omega]
    · rw [decide_eq_false hkn, Bool.false_and, Bool.false_and]
  · rw [rb_xor, e k hk, hW k hk]
    cases decide (k < n) <;> cases pgv bb ss w u k <;> cases w k <;> rfl
theorem PB.wipe {n : Nat} {bf sf kf : Nat → Int64} {bb : Nat → Bool} {ss : Nat → Int32} {kk : Nat → Bool} {u : Nat} (h : PB n bf sf kf bb ss kk u) : PB n (rwp bf (rfirst (fun _ => 0) n) sf 34) sf (fun _ => 0) (wpb bb ss u n) ss (wpk kk u n) u := fun k hk => by
  refine ⟨?_, (h k hk).2.1, ?_⟩
  · rw [rb_rwp _ _ _ hk, (h k hk).1, (h k hk).2.1, rb_rfirst, rb_zero, Bool.or_false]
    unfold wpb
    by_cases hkn : k < n
    · rw [if_pos (show 2200 * u ≤ 2200 * u + k ∧ 2200 * u + k < 2200 * u + n by omega), decide_eq_true hkn]
      by_cases hs : ss (2200 * u + k) = -1
      · rw [if_pos hs, decide_eq_false (fun z => z hs)]; cases bb (2200 * u + k) <;> rfl
      · rw [if_neg hs, decide_eq_true hs]; cases bb (2200 * u + k) <;> rfl
    · rw [decide_eq_false hkn]; rfl
  · rw [rb_zero]
    unfold wpk
    by_cases hkn : k < n
    · rw [if_pos (by omega), Bool.and_false]
    · rw [decide_eq_false hkn, Bool.false_and]
theorem pgb_o {bb : Nat → Bool} {ss : Nat → Int32} {w : Nat → Bool} {u v n k : Nat} (hn : n ≤ 2176) (hk : k < 2176) (h : u ≠ v) : pgb bb ss w u n (2200 * v + k) = bb (2200 * v + k) := by unfold pgb; rw [if_neg (by omega)]
theorem wpb_o {bb : Nat → Bool} {ss : Nat → Int32} {u v n k : Nat} (hn : n ≤ 2176) (hk : k < 2176) (h : u ≠ v) : wpb bb ss u n (2200 * v + k) = bb (2200 * v + k) := by unfold wpb; rw [if_neg (by omega)]
theorem wpk_o {kk : Nat → Bool} {u v n k : Nat} (hn : n ≤ 2176) (hk : k < 2176) (h : u ≠ v) : wpk kk u n (2200 * v + k) = kk (2200 * v + k) := by unfold wpk; rw [if_neg (by omega)]
theorem bup_o {f : Nat → Bool} {x : Bool} {u v k j : Nat} (hk : k < 2176) (hj : j < 2176) (h : u ≠ v) : bup f (2200 * u + k) x (2200 * v + j) = f (2200 * v + j) := by unfold bup; rw [if_neg (by omega)]
theorem bup_k {f : Nat → Bool} {x : Bool} {u k j : Nat} : bup f (2200 * u + k) x (2200 * u + j) = if j = k then x else f (2200 * u + j) := by
  unfold bup
  by_cases h : j = k
  · rw [if_pos (by omega), if_pos h]
  · rw [if_neg (by omega), if_neg h]
theorem PB.flip {n : Nat} {bf sf kf : Nat → Int64} {bb : Nat → Bool} {ss : Nat → Int32} {kk : Nat → Bool} {u k : Nat} (h : PB n bf sf kf bb ss kk u) (hn : n ≤ 2176) (hk : k < n) : PB n (rflip bf sf k) sf kf (bup bb (2200 * u + k) (if ss (2200 * u + k) = -1 then !(bb (2200 * u + k)) else bb (2200 * u + k))) ss kk u := fun j hj => by
  refine ⟨?_, (h j hj).2⟩
  have hs := (h k (by omega)).2.1
  rw [decide_eq_true hk, Bool.true_and] at hs
  rw [rb_rflip, hs, (h j hj).1, bup_k]
  by_cases hjk : j = k
  · rw [if_pos hjk, hjk, decide_eq_true hk, Bool.true_and, Bool.true_and]
    by_cases hss : ss (2200 * u + k) = -1
    · rw [if_pos hss, if_pos ⟨rfl, decide_eq_false (fun z => z hss)⟩]
    · rw [if_neg hss, if_neg (fun z => by rw [decide_eq_true hss] at z; exact absurd z.2 (by decide))]
  · rw [if_neg hjk, if_neg (fun z => hjk z.1)]
theorem PB.mark {n : Nat} {bf sf kf : Nat → Int64} {bb : Nat → Bool} {ss : Nat → Int32} {kk : Nat → Bool} {u k : Nat} (h : PB n bf sf kf bb ss kk u) (hk : k < n) {x : Bool} : PB n bf sf (rset kf k x) bb ss (bup kk (2200 * u + k) x) u := fun j hj => by
  refine ⟨(h j hj).1, (h j hj).2.1, ?_⟩
  rw [rb_set, bup_k, (h j hj).2.2]
  by_cases hjk : j = k
  · rw [if_pos hjk, if_pos hjk, decide_eq_true (by omega), Bool.true_and]
  · rw [if_neg hjk, if_neg hjk]
theorem upd_k {f : Nat → Int32} {x : Int32} {u k j : Nat} : upd f (2200 * u + k) x (2200 * u + j) = if j = k then x else f (2200 * u + j) := by
  unfold upd
  by_cases h : j = k
  · rw [if_pos (by omega), if_pos h]
  · rw [if_neg (by omega), if_neg h]
theorem upd_o {f : Nat → Int32} {x : Int32} {u v k j : Nat} (hk : k < 2176) (hj : j < 2176) (h : u ≠ v) : upd f (2200 * u + k) x (2200 * v + j) = f (2200 * v + j) := by unfold upd; rw [if_neg (by omega)]
theorem PB.stN {n : Nat} {bf sf kf : Nat → Int64} {bb : Nat → Bool} {ss : Nat → Int32} {kk : Nat → Bool} {u k : Nat} (h : PB n bf sf kf bb ss kk u) (hk : k < n) : PB n bf (rset sf k false) kf (bup bb (2200 * u + k) (bb (2200 * u + k))) (upd ss (2200 * u + k) (-1)) kk u := fun j hj => by
  refine ⟨?_, ?_, (h j hj).2.2⟩
  · rw [(h j hj).1, bup_k]
    by_cases hjk : j = k
    · rw [if_pos hjk, hjk]
    · rw [if_neg hjk]
  · rw [rb_set, upd_k, (h j hj).2.1]
    by_cases hjk : j = k
    · rw [if_pos hjk, if_pos hjk, decide_eq_false (show ¬ (-1 : Int32) ≠ -1 from fun z => z rfl), Bool.and_false]
    · rw [if_neg hjk, if_neg hjk]
theorem PB.stV {n : Nat} {bf sf kf : Nat → Int64} {bb : Nat → Bool} {ss : Nat → Int32} {kk : Nat → Bool} {u k : Nat} (h : PB n bf sf kf bb ss kk u) (hk : k < n) {z : Nat} (hz : z ≤ 1) : PB n (rset bf k (z == 1)) (rset sf k true) kf (bup bb (2200 * u + k) (decide (nI z = 1))) (upd ss (2200 * u + k) (nI z)) kk u := fun j hj => by
  have hz2 : z = 0 ∨ z = 1 := by omega
  refine ⟨?_, ?_, (h j hj).2.2⟩
  · rw [rb_set, (h j hj).1, bup_k]
    by_cases hjk : j = k
    · rw [if_pos hjk, if_pos hjk, decide_eq_true (by omega), Bool.true_and]
      rcases hz2 with e | e <;> subst e <;> decide
    · rw [if_neg hjk, if_neg hjk]
  · rw [rb_set, upd_k, (h j hj).2.1]
    by_cases hjk : j = k
    · rw [if_pos hjk, if_pos hjk, decide_eq_true (show j < n by omega), Bool.true_and]
      rcases hz2 with e | e <;> subst e <;> decide
    · rw [if_neg hjk, if_neg hjk]
theorem brd_bit {b0 : Nat → Nat} {w : Nat → Bool} {d : Nat} (h0 : ∀ i, i < d → b0 i = 0) {k : Nat} (hk : k < 8 * d) : ∀ K, dbit (brd b0 w d K) k = (decide (k < K) && w k)
  | 0 => by
    show dbit b0 k = _
    unfold dbit
    rw [h0 (k / 8) (by omega), Nat.zero_testBit, decide_eq_false (Nat.not_lt_zero k), Bool.false_and]
  | K + 1 => by
    have ih := brd_bit h0 hk (w := w) K
    unfold brd
    by_cases hc : K < 8 * d ∧ w K = true
    · rw [if_pos hc]
      unfold dbit nup
      by_cases h8 : k / 8 = K / 8
      · have e : (128 / 2 ^ (K % 8)).testBit (7 - k % 8) = decide (k = K) := by
          have e1 : 128 / 2 ^ (K % 8) = 2 ^ (7 - K % 8) := by
            have h8 : K % 8 < 8 := Nat.mod_lt _ (by decide)
            rw [show (128 : Nat) = 2 ^ 7 from rfl, Nat.pow_div (by omega) (by decide)]
          rw [e1, Nat.testBit_two_pow]
          exact decide_eq_decide.mpr (by omega)
        rw [if_pos h8, Nat.testBit_or, e, ← h8]
        have ih' : (brd b0 w d K (k / 8)).testBit (7 - k % 8) = (decide (k < K) && w k) := ih
        rw [ih']
        by_cases hkK : k = K
        · rw [decide_eq_true hkK, Bool.or_true, hkK, hc.2, decide_eq_true (Nat.lt_succ_self K)]; rfl
        · rw [decide_eq_false hkK, Bool.or_false]
          congr 1
          exact decide_eq_decide.mpr (by omega)
      · rw [if_neg h8]
        have ih' : (brd b0 w d K (k / 8)).testBit (7 - k % 8) = (decide (k < K) && w k) := ih
        rw [ih']
        congr 1
        exact decide_eq_decide.mpr (by omega)
    · rw [if_neg hc, ih]
      by_cases hkK : k = K
      · rw [hkK] at hk ⊢
        cases hw : w K with
        | true => exact absurd ⟨hk, hw⟩ hc
        | false => rw [Bool.and_false, Bool.and_false]
      · congr 1
        exact decide_eq_decide.mpr (by omega)
theorem brd_lt {b0 : Nat → Nat} {w : Nat → Bool} {d : Nat} (h0 : ∀ i, i < 256 → b0 i < 256) : ∀ K i, i < 256 → brd b0 w d K i < 256
  | 0, i, hi => h0 i hi
  | K + 1, i, hi => by
    unfold brd
    split
    · unfold nup
      split
      · rename_i e
        exact Nat.or_lt_two_pow (n := 8) (by rw [← e]; exact brd_lt h0 K i hi) (Nat.lt_of_le_of_lt (Nat.div_le_self _ _) (by decide))
      · exact brd_lt h0 K i hi
    · exact brd_lt h0 K i hi
theorem trd_ok {tu : Nat → Nat} {w b : Nat → Bool} : ∀ k, (trd tu w b k).2 = cnt (fun k => w k ^^ b k) k ∧ ∀ l, l < cnt (fun k => w k ^^ b k) k → (trd tu w b k).1 l = nth (fun k => w k ^^ b k) k l
  | 0 => ⟨rfl, fun l hl => absurd hl (Nat.not_lt_zero _)⟩
  | k + 1 => by
    obtain ⟨h1, h2⟩ := trd_ok (tu := tu) (w := w) (b := b) k
    unfold trd
    by_cases hc : (w k ^^ b k) = true
    · rw [if_pos hc, cnt_t (E := fun k => w k ^^ b k) hc]
      refine ⟨by show _ + 1 = _; rw [h1], fun l hl => ?_⟩
      show nup (trd tu w b k).1 (trd tu w b k).2 k l = _
      unfold nup
      rw [h1]
      by_cases hl2 : l = cnt (fun k => w k ^^ b k) k
      · rw [if_pos hl2, hl2, nth_hi (E := fun k => w k ^^ b k) hc]
      · rw [if_neg hl2, nth_lo (by omega)]
        exact h2 l (by omega)
    · have hc' : (w k ^^ b k) = false := Bool.eq_false_iff.mpr hc
      rw [if_neg hc, cnt_f (E := fun k => w k ^^ b k) hc']
      exact ⟨h1, fun l hl => by rw [nth_lo hl]; exact h2 l hl⟩
theorem trn_neg {f : Nat → Int64} {n : Nat} {z : Int32} (hz : ∀ w, w < 2 ^ 31 → nI w ≠ z) : ∀ c k w, w + c < 2 ^ 31 → trn f n z c k w = -1
  | 0, k, w, _ => rfl
  | c + 1, k, w, h => by
    show (if rb f k then (if nI w = z then nI k else trn f n z c (k + 1) (w + 1)) else trn f n z c (k + 1) w) = -1
    rw [if_neg (hz w (by omega)), trn_neg hz c (k + 1) (w + 1) (by omega), trn_neg hz c (k + 1) w (by omega)]
    split <;> rfl
theorem trn_ok {f : Nat → Int64} {n l : Nat} (hn : n < 2 ^ 30) (hl : l < 2 ^ 31) : ∀ c k, k + c = n → cnt (rb f) k ≤ l → trn f n (nI l) c k (cnt (rb f) k) = if l < cnt (rb f) n then nI (nth (rb f) n l) else -1
  | 0, k, hk, h => by
    rw [show k = n by omega] at h
    rw [if_neg (by omega)]; rfl
  | c + 1, k, hk, h => by
    have hck := cnt_le (rb f) k
    show (if rb f k then (if nI (cnt (rb f) k) = nI l then nI k else trn f n (nI l) c (k + 1) (cnt (rb f) k + 1)) else trn f n (nI l) c (k + 1) (cnt (rb f) k)) = _
    cases hr : rb f k with
    | true =>
      rw [if_pos rfl]
      by_cases he : nI (cnt (rb f) k) = nI l
      · have e2 : cnt (rb f) k = l := (nI_eq (by omega) hl).mp he
        have e3 := cnt_t (E := rb f) hr
        have e4 := cnt_mono (E := rb f) (a := k + 1) c
        rw [show k + 1 + c = n by omega] at e4
        have e5 := nth_up (E := rb f) (b := k + 1) (l := l) (by omega) c
        rw [show k + 1 + c = n by omega, ← e2, nth_hi hr] at e5
        rw [if_pos he, if_pos (by omega), ← e2, e5]
      · rw [if_neg he, ← cnt_t (E := rb f) hr]
        refine trn_ok hn hl c (k + 1) (by omega) ?_
        rw [cnt_t hr]
        have : cnt (rb f) k ≠ l := fun z => he (by rw [z])
        omega
    | false =>
      rw [if_neg (by decide), ← cnt_f (E := rb f) hr]
      exact trn_ok hn hl c (k + 1) (by omega) (by rw [cnt_f hr]; exact h)
