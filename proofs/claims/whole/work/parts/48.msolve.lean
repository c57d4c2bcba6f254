/-! THE MODEL: solves, by elimination -/
def fl9 (A : Nat → Nat → Nat) : Nat → Nat := fun x => A (x / 9) (x % 9)
def mup (A : Nat → Nat → Nat) (i j v : Nat) : Nat → Nat → Nat := fun a b => if a = i ∧ b = j then v else A a b
theorem d9 {i j : Nat} (h : j < 9) : (9 * i + j) / 9 = i ∧ (9 * i + j) % 9 = j := by omega
theorem fl9_at {A : Nat → Nat → Nat} {i j : Nat} (h : j < 9) : fl9 A (9 * i + j) = A i j := by unfold fl9; rw [(d9 h).1, (d9 h).2]
theorem fl9_up {A : Nat → Nat → Nat} {i j v : Nat} (h : j < 9) : nup (fl9 A) (9 * i + j) v = fl9 (mup A i j v) := by
  funext x
  unfold nup fl9 mup
  by_cases hx : x = 9 * i + j
  · rw [if_pos hx, if_pos (by omega)]
  · rw [if_neg hx, if_neg (by omega)]
theorem fl9_of (li : Nat → Nat) : li = fl9 (fun a b => li (9 * a + b)) := by
  funext x; unfold fl9; congr 1; omega
/-- the lines, filled from the syndromes up to line i, column j -/
def fA (A : Nat → Nat → Nat) (sy : Nat → Nat) (many i j : Nat) : Nat → Nat → Nat := fun a b => if (a < i ∧ b ≤ many) ∨ (a = i ∧ b < j) then sy (1 + a + b) else A a b
theorem fA_up {A : Nat → Nat → Nat} {sy : Nat → Nat} {many i j : Nat} : mup (fA A sy many i j) i j (sy (1 + i + j)) = fA A sy many i (j + 1) := by
  funext a b
  unfold mup fA
  by_cases h : a = i ∧ b = j
  · rw [if_pos h, if_pos (by omega), h.1, h.2]
  · rw [if_neg h]
    by_cases h2 : (a < i ∧ b ≤ many) ∨ (a = i ∧ b < j)
    · rw [if_pos h2, if_pos (by omega)]
    · rw [if_neg h2, if_neg (by omega)]
theorem fA_row {A : Nat → Nat → Nat} {sy : Nat → Nat} {many i : Nat} : fA A sy many i (many + 1) = fA A sy many (i + 1) 0 := by
  funext a b
  unfold fA
  by_cases h : (a < i ∧ b ≤ many) ∨ (a = i ∧ b < many + 1)
  · rw [if_pos h, if_pos (by omega)]
  · rw [if_neg h, if_neg (by omega)]
theorem fA_0 {A : Nat → Nat → Nat} {sy : Nat → Nat} {many : Nat} : fA A sy many 0 0 = A := by
  funext a b; unfold fA; rw [if_neg (by omega)]
def frw (A : Nat → Nat → Nat) (c : Nat) : Nat → Nat → Nat
  | 0, row => row
  | z + 1, row => if A row c = 0 then frw A c z (row + 1) else row
/-- lines row and c change places, line c is scaled: up to column k -/
def swp (m : Nat) (A : Nat → Nat → Nat) (row c s k : Nat) : Nat → Nat → Nat := fun a b => if b < k then (if a = c then fmul m (A row b) s else if a = row then A c b else A a b) else A a b
theorem swp_in {m : Nat} {A : Nat → Nat → Nat} {row c s k a b : Nat} (h : b < k) : swp m A row c s k a b = if a = c then fmul m (A row b) s else if a = row then A c b else A a b := if_pos h
theorem swp_out {m : Nat} {A : Nat → Nat → Nat} {row c s k a b : Nat} (h : ¬ b < k) : swp m A row c s k a b = A a b := if_neg h
theorem swp_up {m : Nat} {A : Nat → Nat → Nat} {row c s k : Nat} : mup (mup (swp m A row c s k) row k (swp m A row c s k c k)) c k (fmul m (swp m A row c s k row k) s) = swp m A row c s (k + 1) := by
  rw [swp_out (Nat.lt_irrefl _), swp_out (Nat.lt_irrefl _)]
  funext a b
  unfold mup
  by_cases h1 : a = c ∧ b = k
  · rw [if_pos h1, h1.1, h1.2, swp_in (by omega), if_pos rfl]
  · rw [if_neg h1]
    by_cases h2 : a = row ∧ b = k
    · rw [if_pos h2, h2.1, h2.2, swp_in (by omega), if_neg (by omega), if_pos rfl]
    · rw [if_neg h2]
      by_cases h3 : b < k
      · rw [swp_in h3, swp_in (by omega)]
      · rw [swp_out h3]
        by_cases h4 : b < k + 1
        · rw [swp_in h4, if_neg (by omega), if_neg (by omega)]
        · rw [swp_out h4]
theorem swp_0 {m : Nat} {A : Nat → Nat → Nat} {row c s : Nat} : swp m A row c s 0 = A := by funext a b; unfold swp; rw [if_neg (by omega)]
/-- line c is taken from line i, up to column k -/
def elr (m : Nat) (A : Nat → Nat → Nat) (c i k : Nat) : Nat → Nat → Nat := fun a b => if a = i ∧ b < k then A a b ^^^ fmul m (if i = c then 0 else A i c) (A c b) else A a b
def elA (m : Nat) (A : Nat → Nat → Nat) (c many q : Nat) : Nat → Nat → Nat := fun a b => if a < q ∧ b ≤ many then A a b ^^^ fmul m (if a = c then 0 else A a c) (A c b) else A a b
theorem fmul_0 {m b : Nat} : fmul m 0 b = 0 := if_pos (Or.inl rfl)
theorem elA_0 {m : Nat} {A : Nat → Nat → Nat} {c many : Nat} : elA m A c many 0 = A := by funext a b; unfold elA; rw [if_neg (by omega)]
theorem elA_c {m : Nat} {A : Nat → Nat → Nat} {c many q b : Nat} : elA m A c many q c b = A c b := by
  unfold elA; rw [if_pos rfl, fmul_0, Nat.xor_zero]; split <;> rfl
theorem elA_in {m : Nat} {A : Nat → Nat → Nat} {c many q a b : Nat} (h : a < q ∧ b ≤ many) : elA m A c many q a b = A a b ^^^ fmul m (if a = c then 0 else A a c) (A c b) := if_pos h
theorem elA_out {m : Nat} {A : Nat → Nat → Nat} {c many q a b : Nat} (h : ¬ (a < q ∧ b ≤ many)) : elA m A c many q a b = A a b := if_neg h
theorem elr_in {m : Nat} {A : Nat → Nat → Nat} {c i k a b : Nat} (h : a = i ∧ b < k) : elr m A c i k a b = A a b ^^^ fmul m (if i = c then 0 else A i c) (A c b) := if_pos h
theorem elr_out {m : Nat} {A : Nat → Nat → Nat} {c i k a b : Nat} (h : ¬ (a = i ∧ b < k)) : elr m A c i k a b = A a b := if_neg h
theorem elA_row {m : Nat} {A : Nat → Nat → Nat} {c many q : Nat} : elr m (elA m A c many q) c q (many + 1) = elA m A c many (q + 1) := by
  have e : ∀ b, elA m A c many q q b = A q b := fun b => elA_out (by omega)
  funext a b
  by_cases h : a = q ∧ b < many + 1
  · rw [elr_in h, h.1, e, e, elA_c, elA_in (by omega)]
  · rw [elr_out h]
    by_cases h2 : a < q ∧ b ≤ many
    · rw [elA_in h2, elA_in (by omega)]
    · rw [elA_out h2, elA_out (by omega)]
theorem elr_0 {m : Nat} {A : Nat → Nat → Nat} {c i : Nat} : elr m A c i 0 = A := by funext a b; unfold elr; rw [if_neg (by omega)]
theorem elr_f0 {m : Nat} {A : Nat → Nat → Nat} {c i k : Nat} (h : (if i = c then 0 else A i c) = 0) : elr m A c i k = A := by
  funext a b; unfold elr; rw [h, fmul_0, Nat.xor_zero]; split <;> rfl
theorem elr_up {m : Nat} {A : Nat → Nat → Nat} {c i k : Nat} (hic : i ≠ c) : mup (elr m A c i k) i k (A i k ^^^ fmul m (if i = c then 0 else A i c) (A c k)) = elr m A c i (k + 1) := by
  funext a b
  unfold mup
  by_cases h : a = i ∧ b = k
  · rw [if_pos h, elr_in (by omega), h.1, h.2]
  · rw [if_neg h]
    by_cases h2 : a = i ∧ b < k
    · rw [elr_in h2, elr_in (by omega)]
    · rw [elr_out h2, elr_out (by omega)]
/-- elimination: the lines, and whether it went through -/
def gjl (m many : Nat) : Nat → Nat → (Nat → Nat → Nat) → (Nat → Nat → Nat) × Bool
  | 0, _, A => (A, true)
  | z + 1, c, A => if frw A c (many - c) c = many then (A, false) else gjl m many z (c + 1) (elA m (swp m A (frw A c (many - c) c) c (finv m (A (frw A c (many - c) c) c)) (many + 1)) c many many)
def gjo (lo : Nat → Nat) (A : Nat → Nat → Nat) (many q : Nat) : Nat → Nat := fun j => if j = 0 then 1 else if many - q < j ∧ j ≤ many then A (many - j) many else lo j
theorem gjo_up {lo : Nat → Nat} {A : Nat → Nat → Nat} {many q : Nat} (h : q < many) : nup (gjo lo A many q) (many - q) (A q many) = gjo lo A many (q + 1) := by
  funext j
  unfold nup gjo
  by_cases hj : j = many - q
  · subst hj; rw [if_pos rfl, if_neg (by omega), if_pos (by omega), show many - (many - q) = q by omega]
  · rw [if_neg hj]
    by_cases h0 : j = 0
    · rw [if_pos h0, if_pos h0]
    · rw [if_neg h0, if_neg h0]
      by_cases h2 : many - q < j ∧ j ≤ many
      · rw [if_pos h2, if_pos (by omega)]
      · rw [if_neg h2, if_neg (by omega)]
theorem gjo_0 {lo : Nat → Nat} {A : Nat → Nat → Nat} {many : Nat} : nup lo 0 1 = gjo lo A many 0 := by
  funext j
  unfold nup gjo
  by_cases h0 : j = 0
  · rw [if_pos h0, if_pos h0]
  · rw [if_neg h0, if_neg h0, if_neg (by omega)]
theorem frw_le {A : Nat → Nat → Nat} {c : Nat} : ∀ z row, row ≤ frw A c z row ∧ frw A c z row ≤ row + z
  | 0, row => ⟨Nat.le_refl _, Nat.le_refl _⟩
  | z + 1, row => by
    unfold frw
    split
    · have := frw_le (A := A) (c := c) z (row + 1); omega
    · omega
def Mb (m many : Nat) (A : Nat → Nat → Nat) : Prop := ∀ a b, a < many → b ≤ many → A a b < 2 ^ m
theorem Mb.sw_ {m many : Nat} {A : Nat → Nat → Nat} (h3 : 3 ≤ m) (h13 : m ≤ 13) (h : Mb m many A) {row c s k : Nat} (hc : c < many) : Mb m many (swp m A row c s k) := fun a b ha hb => by
  unfold swp
  split
  · split
    · exact fmul_lt h3 h13
    · split
      · exact h c b hc hb
      · exact h a b ha hb
  · exact h a b ha hb
theorem Mb.eA_ {m many : Nat} {A : Nat → Nat → Nat} (h3 : 3 ≤ m) (h13 : m ≤ 13) (h : Mb m many A) {c q : Nat} : Mb m many (elA m A c many q) := fun a b ha hb => by
  unfold elA
  split
  · exact xor_lt (h a b ha hb) (fmul_lt h3 h13)
  · exact h a b ha hb
theorem Mb.er_ {m many : Nat} {A : Nat → Nat → Nat} (h3 : 3 ≤ m) (h13 : m ≤ 13) (h : Mb m many A) {c i k : Nat} : Mb m many (elr m A c i k) := fun a b ha hb => by
  unfold elr
  split
  · exact xor_lt (h a b ha hb) (fmul_lt h3 h13)
  · exact h a b ha hb
theorem nI9 {i j : Nat} : nI 9 * nI i = nI (9 * i) := pk_mul _ _
theorem lp_sv1 {X : Ev} {M0 M M' : Hp} {v : Option Value} {op : Int32} {m t d r n tn : Nat} {me ri lt : Int32} (hO : M[138]? = some (.inr (6, [.int (op), .int (nI m), .int (nI t), .int (nI d), .int (nI r), .int (nI n), .int (nI (2 ^ m - 1)), .ref (139), .ref (140), .ref (141), .ref (142), .ref (143), .ref (144), .ref (145), .ref (146), .ref (147), .int (nI tn), .int (me), .int (ri), .int (lt), .ref (148), .ref (149), .ref (150), .ref (151), .ref (152), .ref (153), .ref (154)]))) {sy : Nat → Nat} (hsy : M[152]? = some (.inl (0, 17, .inl (fun j => nI ((sy) j))))) {li : Nat → Nat} (hli : M[153]? = some (.inl (0, 72, .inl (fun j => nI ((li) j))))) {many : Nat} (hm1 : 1 ≤ many) (hm8 : many ≤ 8) {A : Nat → Nat → Nat} {ii : Nat} (hii : ii < many) (k : G X 1 jX7_solves M0 41 [some (.ref (138)), some (.int (nI many)), some (.int (nI ii)), some (.int (nI ((many + 1)))), none, none, none, none] [] (M.set (153) (.inl (0, 72, .inl (fun j => nI ((fl9 (fA A sy many (ii) ((many + 1)))) j))))) v M') : ∀ (zz i : Nat), i + zz = (many + 1) → G X 1 jX7_solves M0 9 [some (.ref (138)), some (.int (nI many)), some (.int (nI ii)), some (.int (nI i)), none, none, none, none] [] (M.set (153) (.inl (0, 72, .inl (fun j => nI ((fl9 (fA A sy many (ii) (i))) j))))) v M' := by
  intro zz
  induction zz with
  | zero =>
    intro i hjj
    have hjj : i = (many + 1) := by omega
    subst hjj
    refine x_iload_n dX7_solves_9 rfl rfl ?_
    refine x_iload_n dX7_solves_10 rfl rfl ?_
    refine x_icmp_gt (tgt := 41) dX7_solves_11 (by decide) (fun _ => ?_) (fun h => False.elim (h ((nI_ltI (by omega) (by omega)).mpr (by omega))))
    exact k
  | succ zz ih =>
    intro i hjj
    refine x_iload_n dX7_solves_9 rfl rfl ?_
    refine x_iload_n dX7_solves_10 rfl rfl ?_
    refine x_icmp_gt (tgt := 41) dX7_solves_11 (by decide) (fun h => False.elim (absurd ((nI_ltI (by omega) (by omega)).mp h) (by omega))) (fun _ => ?_)
    refine x_aload_n dX7_solves_14 rfl rfl ?_
    refine x_getf (ci := 6) (kf := 25) dX7_solves_15 rfl uX7 (by decide) fl_RX7_54 (gn hO (by decide)) rfl ?_
    refine x_bipush (y := nI 9) dX7_solves_18 rfl ?_
    refine x_iload_n dX7_solves_20 rfl rfl ?_
    refine x_imul dX7_solves_21 ?_
    refine x_casti (y := nI (9 * ii)) (pk_mul _ _) ?_
    refine x_iload_n dX7_solves_22 rfl rfl ?_
    refine x_iadd dX7_solves_23 ?_
    refine x_casti (y := nI (9 * ii + i)) (nI_add _ _) ?_
    refine x_aload_n dX7_solves_24 rfl rfl ?_
    refine x_getf (ci := 6) (kf := 24) dX7_solves_25 rfl uX7 (by decide) fl_RX7_51 (gn hO (by decide)) rfl ?_
    refine x_iconst (y := nI 1) dX7_solves_28 rfl ?_
    refine x_iload_n dX7_solves_29 rfl rfl ?_
    refine x_iadd dX7_solves_30 ?_
    refine x_casti (y := nI (1 + ii)) (nI_add _ _) ?_
    refine x_iload_n dX7_solves_31 rfl rfl ?_
    refine x_iadd dX7_solves_32 ?_
    refine x_casti (y := nI (1 + ii + i)) (nI_add _ _) ?_
    refine x_ild (j := 1 + ii + i) dX7_solves_33 (gn hsy (by decide)) rfl (by omega) (by decide) ?_
    refine x_ist (j := 9 * ii + i) (M1 := (M.set (153) (.inl (0, 72, .inl (fun j => nI ((fl9 (fA A sy many (ii) (i + 1))) j)))))) dX7_solves_34 (gs hli) rfl (by omega) (by decide) (by rw [show upd (fun j => nI ((fl9 (fA A sy many (ii) (i))) j)) (9 * ii + i) (nI (sy (1 + ii + i))) = (fun j => nI ((fl9 (fA A sy many (ii) (i + 1))) j)) from (nup_eq.trans (congrArg (fun z : Nat → Nat => fun j => nI (z j)) ((fl9_up (by omega)).trans (congrArg fl9 fA_up))))] <;> exact (ss0)) ?_
    refine x_iinc (y := nI (i + 1)) (ls' := [some (.ref (138)), some (.int (nI many)), some (.int (nI ii)), some (.int (nI (i + 1))), none, none, none, none]) dX7_solves_35 (by decide) rfl rfl (ii_add _ 1) rfl ?_
    refine x_goto (tgt := 9) dX7_solves_38 (by decide) ?_
    exact ih (i + 1) (by omega)
theorem sv_f2 {X : Ev} {d' : Nat} {M0 M M' : Hp} {v : Option Value} {pc : Nat} {a0 a1 : Value} {b2 b3 b4 b5 b6 b7 : Option Value} (kc : G X d' jX7_solves M0 pc [some a0, some a1, none, none, none, none, none, none] [] M v M') : G X d' jX7_solves M0 pc [some a0, some a1, b2, b3, b4, b5, b6, b7] [] M v M' := x_fewer (fun q w h => by match q, h with | 0, h => exact h | 1, h => exact h | 2, h => cases h | 3, h => cases h | 4, h => cases h | 5, h => cases h | 6, h => cases h | 7, h => cases h | q + 8, h => cases h) kc
theorem sv_f3 {X : Ev} {d' : Nat} {M0 M M' : Hp} {v : Option Value} {pc : Nat} {a0 a1 a2 : Value} {b3 b4 b5 b6 b7 : Option Value} (kc : G X d' jX7_solves M0 pc [some a0, some a1, some a2, none, none, none, none, none] [] M v M') : G X d' jX7_solves M0 pc [some a0, some a1, some a2, b3, b4, b5, b6, b7] [] M v M' := x_fewer (fun q w h => by match q, h with | 0, h => exact h | 1, h => exact h | 2, h => exact h | 3, h => cases h | 4, h => cases h | 5, h => cases h | 6, h => cases h | 7, h => cases h | q + 8, h => cases h) kc
theorem sv_f4 {X : Ev} {d' : Nat} {M0 M M' : Hp} {v : Option Value} {pc : Nat} {a0 a1 a2 a3 : Value} {b4 b5 b6 b7 : Option Value} (kc : G X d' jX7_solves M0 pc [some a0, some a1, some a2, some a3, none, none, none, none] [] M v M') : G X d' jX7_solves M0 pc [some a0, some a1, some a2, some a3, b4, b5, b6, b7] [] M v M' := x_fewer (fun q w h => by match q, h with | 0, h => exact h | 1, h => exact h | 2, h => exact h | 3, h => exact h | 4, h => cases h | 5, h => cases h | 6, h => cases h | 7, h => cases h | q + 8, h => cases h) kc
theorem sv_f5 {X : Ev} {d' : Nat} {M0 M M' : Hp} {v : Option Value} {pc : Nat} {a0 a1 a2 a3 a4 : Value} {b5 b6 b7 : Option Value} (kc : G X d' jX7_solves M0 pc [some a0, some a1, some a2, some a3, some a4, none, none, none] [] M v M') : G X d' jX7_solves M0 pc [some a0, some a1, some a2, some a3, some a4, b5, b6, b7] [] M v M' := x_fewer (fun q w h => by match q, h with | 0, h => exact h | 1, h => exact h | 2, h => exact h | 3, h => exact h | 4, h => exact h | 5, h => cases h | 6, h => cases h | 7, h => cases h | q + 8, h => cases h) kc
theorem lp_sv2 {X : Ev} {M0 M M' : Hp} {v : Option Value} {op : Int32} {m t d r n tn : Nat} {me ri lt : Int32} (hO : M[138]? = some (.inr (6, [.int (op), .int (nI m), .int (nI t), .int (nI d), .int (nI r), .int (nI n), .int (nI (2 ^ m - 1)), .ref (139), .ref (140), .ref (141), .ref (142), .ref (143), .ref (144), .ref (145), .ref (146), .ref (147), .int (nI tn), .int (me), .int (ri), .int (lt), .ref (148), .ref (149), .ref (150), .ref (151), .ref (152), .ref (153), .ref (154)]))) {sy : Nat → Nat} (hsy : M[152]? = some (.inl (0, 17, .inl (fun j => nI ((sy) j))))) {li : Nat → Nat} (hli : M[153]? = some (.inl (0, 72, .inl (fun j => nI ((li) j))))) {many : Nat} (hm1 : 1 ≤ many) (hm8 : many ≤ 8) {A : Nat → Nat → Nat} (k : G X 1 jX7_solves M0 47 [some (.ref (138)), some (.int (nI many)), some (.int (nI many)), none, none, none, none, none] [] (M.set (153) (.inl (0, 72, .inl (fun j => nI ((fl9 (fA A sy many (many) (0))) j))))) v M') : ∀ (zz q : Nat), q + zz = many → G X 1 jX7_solves M0 2 [some (.ref (138)), some (.int (nI many)), some (.int (nI q)), none, none, none, none, none] [] (M.set (153) (.inl (0, 72, .inl (fun j => nI ((fl9 (fA A sy many (q) (0))) j))))) v M' := by
  intro zz
  induction zz with
  | zero =>
    intro q hqq
    have hqq : q = many := by omega
    subst hqq
    refine x_iload_n dX7_solves_2 rfl rfl ?_
    refine x_iload_n dX7_solves_3 rfl rfl ?_
    refine x_icmp_ge (tgt := 47) dX7_solves_4 (by decide) (fun _ => ?_) (fun h => False.elim (h (nI_le (Nat.le_refl _) (by omega))))
    exact k
  | succ zz ih =>
    intro q hqq
    have hk := ih (q + 1) (by omega)
    refine x_iload_n dX7_solves_2 rfl rfl ?_
    refine x_iload_n dX7_solves_3 rfl rfl ?_
    refine x_icmp_ge (tgt := 47) dX7_solves_4 (by decide) (fun h => False.elim (nI_ge (by omega : q < many) (by omega) h)) (fun _ => ?_)
    refine x_iconst (y := nI 0) dX7_solves_7 rfl ?_
    refine x_istore_n (ls' := [some (.ref (138)), some (.int (nI many)), some (.int (nI q)), some (.int (nI 0)), none, none, none, none]) dX7_solves_8 rfl (by decide) rfl rfl ?_
    refine lp_sv1 hO hsy hli hm1 hm8 (ii := q) (by omega) ?_ (many + 1) 0 (by omega)
    refine x_iinc (y := nI (q + 1)) (ls' := [some (.ref (138)), some (.int (nI many)), some (.int (nI (q + 1))), some (.int (nI (many + 1))), none, none, none, none]) dX7_solves_41 (by decide) rfl rfl (ii_add _ 1) rfl ?_
    refine x_goto (tgt := 2) dX7_solves_44 (by decide) ?_
    rw [← fA_row] at hk
    refine sv_f3 ?_
    exact hk
theorem lp_sv3 {X : Ev} {M0 M M' : Hp} {v : Option Value} {A : Nat → Nat → Nat} {op : Int32} {m t d r n tn : Nat} {me ri lt : Int32} (hO : M[138]? = some (.inr (6, [.int (op), .int (nI m), .int (nI t), .int (nI d), .int (nI r), .int (nI n), .int (nI (2 ^ m - 1)), .ref (139), .ref (140), .ref (141), .ref (142), .ref (143), .ref (144), .ref (145), .ref (146), .ref (147), .int (nI tn), .int (me), .int (ri), .int (lt), .ref (148), .ref (149), .ref (150), .ref (151), .ref (152), .ref (153), .ref (154)])))  (hli : M[153]? = some (.inl (0, 72, .inl (fun j => nI ((fl9 A) j))))) {many : Nat} (hm1 : 1 ≤ many) (hm8 : many ≤ 8) {m' c : Nat} (hc : c < many) (hA : Mb m' many A) (hm' : m' ≤ 13) : ∀ (zz q : Nat), q + zz = many → (k : G X 1 jX7_solves M0 81 [some (.ref (138)), some (.int (nI many)), some (.int (nI c)), some (.int (nI (frw A c zz q))), none, none, none, none] [] M v M') → G X 1 jX7_solves M0 56 [some (.ref (138)), some (.int (nI many)), some (.int (nI c)), some (.int (nI q)), none, none, none, none] [] M v M' := by
  have ht : 2 ^ m' ≤ 2 ^ 13 := Nat.pow_le_pow_right (by decide) hm'
  intro zz
  induction zz with
  | zero =>
    intro q hqq k
    have hqq : q = many := by omega
    subst hqq
    refine x_iload_n dX7_solves_56 rfl rfl ?_
    refine x_iload_n dX7_solves_57 rfl rfl ?_
    refine x_icmp_ge (tgt := 81) dX7_solves_58 (by decide) (fun _ => ?_) (fun h => False.elim (h (nI_le (Nat.le_refl _) (by omega))))
    exact k
  | succ zz ih =>
    intro q hqq k
    have hAq := hA q c (by omega) (by omega)
    have e1 : frw A c (zz + 1) q = if A q c = 0 then frw A c zz (q + 1) else q := rfl
    refine x_iload_n dX7_solves_56 rfl rfl ?_
    refine x_iload_n dX7_solves_57 rfl rfl ?_
    refine x_icmp_ge (tgt := 81) dX7_solves_58 (by decide) (fun h => False.elim (nI_ge (by omega : q < many) (by omega) h)) (fun _ => ?_)
    refine x_aload_n dX7_solves_61 rfl rfl ?_
    refine x_getf (ci := 6) (kf := 25) dX7_solves_62 rfl uX7 (by decide) fl_RX7_54 hO rfl ?_
    refine x_bipush (y := nI 9) dX7_solves_65 rfl ?_
    refine x_iload_n dX7_solves_67 rfl rfl ?_
    refine x_imul dX7_solves_68 ?_
    refine x_casti (y := nI (9 * q)) (pk_mul _ _) ?_
    refine x_iload_n dX7_solves_69 rfl rfl ?_
    refine x_iadd dX7_solves_70 ?_
    refine x_casti (y := nI (9 * q + c)) (nI_add _ _) ?_
    refine x_ild (j := 9 * q + c) dX7_solves_71 hli rfl (by omega) (by decide) ?_
    refine x_casti (y := nI (A q c)) (by rw [fl9_at (by omega)]) ?_
    refine x_if_ne (tgt := 81) dX7_solves_72 (by decide) (fun h72 => ?_) (fun h72 => ?_)
    · rw [e1, if_neg (fun z => h72 (by rw [z]; rfl))] at k
      exact k
    · refine x_iinc (y := nI (q + 1)) (ls' := [some (.ref (138)), some (.int (nI many)), some (.int (nI c)), some (.int (nI (q + 1))), none, none, none, none]) dX7_solves_75 (by decide) rfl rfl (ii_add _ 1) rfl ?_
      refine x_goto (tgt := 56) dX7_solves_78 (by decide) ?_
      rw [e1, if_pos ((nI_eq (by omega) (by decide)).mp h72)] at k
      exact ih (q + 1) (by omega) k
theorem sv_f6 {X : Ev} {d' : Nat} {M0 M M' : Hp} {v : Option Value} {pc : Nat} {a0 a1 a2 a3 a4 a5 : Value} {b6 b7 : Option Value} (kc : G X d' jX7_solves M0 pc [some a0, some a1, some a2, some a3, some a4, some a5, none, none] [] M v M') : G X d' jX7_solves M0 pc [some a0, some a1, some a2, some a3, some a4, some a5, b6, b7] [] M v M' := x_fewer (fun q w h => by match q, h with | 0, h => exact h | 1, h => exact h | 2, h => exact h | 3, h => exact h | 4, h => exact h | 5, h => exact h | 6, h => cases h | 7, h => cases h | q + 8, h => cases h) kc
theorem lp_sv4 {X : Ev} {M0 M M' : Hp} {v : Option Value} {op : Int32} {m t d r n tn : Nat} {me ri lt : Int32} (hO : M[138]? = some (.inr (6, [.int (op), .int (nI m), .int (nI t), .int (nI d), .int (nI r), .int (nI n), .int (nI (2 ^ m - 1)), .ref (139), .ref (140), .ref (141), .ref (142), .ref (143), .ref (144), .ref (145), .ref (146), .ref (147), .int (nI tn), .int (me), .int (ri), .int (lt), .ref (148), .ref (149), .ref (150), .ref (151), .ref (152), .ref (153), .ref (154)]))) {pw : Nat → Int32} (hp : M[139]? = some (.inl (0, 8192, .inl (pw)))) {lg : Nat → Int32} (hq : M[140]? = some (.inl (0, 8192, .inl (lg)))) {li : Nat → Nat} (hli : M[153]? = some (.inl (0, 72, .inl (fun j => nI ((li) j))))) (hF : FT pw lg m) {many : Nat} (hm1 : 1 ≤ many) (hm8 : many ≤ 8) {A : Nat → Nat → Nat} (hA : Mb m many A) {row c sc : Nat} (hrow : row < many) (hc : c < many) (hsc : sc < 2 ^ m) (k : G X 1 jX7_solves M0 178 [some (.ref (138)), some (.int (nI many)), some (.int (nI c)), some (.int (nI row)), some (.int (nI sc)), some (.int (nI ((many + 1)))), none, none] [] (M.set (153) (.inl (0, 72, .inl (fun j => nI ((fl9 (swp m A row c sc ((many + 1)))) j))))) v M') : ∀ (zz i : Nat), i + zz = (many + 1) → G X 1 jX7_solves M0 108 [some (.ref (138)), some (.int (nI many)), some (.int (nI c)), some (.int (nI row)), some (.int (nI sc)), some (.int (nI i)), none, none] [] (M.set (153) (.inl (0, 72, .inl (fun j => nI ((fl9 (swp m A row c sc (i))) j))))) v M' := by
  intro zz
  induction zz with
  | zero =>
    intro i hjj
    have hjj : i = (many + 1) := by omega
    subst hjj
    refine x_iload dX7_solves_108 rfl ?_
    refine x_iload_n dX7_solves_110 rfl rfl ?_
    refine x_icmp_gt (tgt := 178) dX7_solves_111 (by decide) (fun _ => ?_) (fun h => False.elim (h ((nI_ltI (by omega) (by omega)).mpr (by omega))))
    exact k
  | succ zz ih =>
    intro i hjj
    refine x_iload dX7_solves_108 rfl ?_
    refine x_iload_n dX7_solves_110 rfl rfl ?_
    refine x_icmp_gt (tgt := 178) dX7_solves_111 (by decide) (fun h => False.elim (absurd ((nI_ltI (by omega) (by omega)).mp h) (by omega))) (fun _ => ?_)
    refine x_aload_n dX7_solves_114 rfl rfl ?_
    refine x_getf (ci := 6) (kf := 25) dX7_solves_115 rfl uX7 (by decide) fl_RX7_54 (gn hO (by decide)) rfl ?_
    refine x_bipush (y := nI 9) dX7_solves_118 rfl ?_
    refine x_iload_n dX7_solves_120 rfl rfl ?_
    refine x_imul dX7_solves_121 ?_
    refine x_casti (y := nI (9 * row)) (pk_mul _ _) ?_
    refine x_iload dX7_solves_122 rfl ?_
    refine x_iadd dX7_solves_124 ?_
    refine x_casti (y := nI (9 * row + i)) (nI_add _ _) ?_
    refine x_ild (j := 9 * row + i) dX7_solves_125 (gs hli) rfl (by omega) (by decide) ?_
    refine x_casti (y := nI (swp m A row c sc (i) row i)) (by rw [fl9_at (by omega)]) ?_
    refine x_istore (ls' := [some (.ref (138)), some (.int (nI many)), some (.int (nI c)), some (.int (nI row)), some (.int (nI sc)), some (.int (nI i)), some (.int (nI (swp m A row c sc (i) row i))), none]) dX7_solves_126 (by decide) rfl rfl ?_
    refine x_aload_n dX7_solves_128 rfl rfl ?_
    refine x_getf (ci := 6) (kf := 25) dX7_solves_129 rfl uX7 (by decide) fl_RX7_54 (gn hO (by decide)) rfl ?_
    refine x_bipush (y := nI 9) dX7_solves_132 rfl ?_
    refine x_iload_n dX7_solves_134 rfl rfl ?_
    refine x_imul dX7_solves_135 ?_
    refine x_casti (y := nI (9 * row)) (pk_mul _ _) ?_
    refine x_iload dX7_solves_136 rfl ?_
    refine x_iadd dX7_solves_138 ?_
    refine x_casti (y := nI (9 * row + i)) (nI_add _ _) ?_
    refine x_aload_n dX7_solves_139 rfl rfl ?_
    refine x_getf (ci := 6) (kf := 25) dX7_solves_140 rfl uX7 (by decide) fl_RX7_54 (gn hO (by decide)) rfl ?_
    refine x_bipush (y := nI 9) dX7_solves_143 rfl ?_
    refine x_iload_n dX7_solves_145 rfl rfl ?_
    refine x_imul dX7_solves_146 ?_
    refine x_casti (y := nI (9 * c)) (pk_mul _ _) ?_
    refine x_iload dX7_solves_147 rfl ?_
    refine x_iadd dX7_solves_149 ?_
    refine x_casti (y := nI (9 * c + i)) (nI_add _ _) ?_
    refine x_ild (j := 9 * c + i) dX7_solves_150 (gs hli) rfl (by omega) (by decide) ?_
    refine x_casti (y := nI (swp m A row c sc (i) c i)) (by rw [fl9_at (by omega)]) ?_
    refine x_ist (j := 9 * row + i) (M1 := (M.set (153) (.inl (0, 72, .inl (fun j => nI ((fl9 (mup (swp m A row c sc (i)) row i (swp m A row c sc (i) c i))) j)))))) dX7_solves_151 (gs hli) rfl (by omega) (by decide) (by rw [show upd (fun j => nI ((fl9 (swp m A row c sc (i))) j)) (9 * row + i) (nI (swp m A row c sc (i) c i)) = (fun j => nI ((fl9 (mup (swp m A row c sc (i)) row i (swp m A row c sc (i) c i))) j)) from (nup_eq.trans (congrArg (fun z : Nat → Nat => fun j => nI (z j)) (fl9_up (by omega))))] <;> exact (ss0)) ?_
    refine x_aload_n dX7_solves_152 rfl rfl ?_
    refine x_getf (ci := 6) (kf := 25) dX7_solves_153 rfl uX7 (by decide) fl_RX7_54 (gn hO (by decide)) rfl ?_
    refine x_bipush (y := nI 9) dX7_solves_156 rfl ?_
    refine x_iload_n dX7_solves_158 rfl rfl ?_
    refine x_imul dX7_solves_159 ?_
    refine x_casti (y := nI (9 * c)) (pk_mul _ _) ?_
    refine x_iload dX7_solves_160 rfl ?_
    refine x_iadd dX7_solves_162 ?_
    refine x_casti (y := nI (9 * c + i)) (nI_add _ _) ?_
    refine x_aload_n dX7_solves_163 rfl rfl ?_
    refine x_iload dX7_solves_164 rfl ?_
    refine x_iload dX7_solves_166 rfl ?_
    refine x_callV (ci := 6) (as := [.int (nI (swp m A row c sc (i) row i)), .int (nI sc)]) dX7_solves_168 mk_X7_by in_X7_by se_X7_by ml_RX7_72 rfl (gn hO (by decide)) (by decide) rfl rfl (Nat.le_of_ble_eq_true rfl) (c_by (gn hO (by decide)) (gn hp (by decide)) (gn hq (by decide)) hF (hA.sw_ hF.1.1 hF.1.2 hc row i hrow (by omega)) hsc) ?_
    refine x_ist (j := 9 * c + i) (M1 := (M.set (153) (.inl (0, 72, .inl (fun j => nI ((fl9 (swp m A row c sc (i + 1))) j)))))) dX7_solves_171 (gs hli) rfl (by omega) (by decide) (by rw [show upd (fun j => nI ((fl9 (mup (swp m A row c sc (i)) row i (swp m A row c sc (i) c i))) j)) (9 * c + i) (nI (fmul m (swp m A row c sc (i) row i) sc)) = (fun j => nI ((fl9 (swp m A row c sc (i + 1))) j)) from (nup_eq.trans (congrArg (fun z : Nat → Nat => fun j => nI (z j)) ((fl9_up (by omega)).trans (congrArg fl9 swp_up))))] <;> exact (ss0)) ?_
    refine x_iinc (y := nI (i + 1)) (ls' := [some (.ref (138)), some (.int (nI many)), some (.int (nI c)), some (.int (nI row)), some (.int (nI sc)), some (.int (nI (i + 1))), some (.int (nI (swp m A row c sc (i) row i))), none]) dX7_solves_172 (by decide) rfl rfl (ii_add _ 1) rfl ?_
    refine x_goto (tgt := 108) dX7_solves_175 (by decide) ?_
    refine sv_f6 ?_
    exact ih (i + 1) (by omega)
theorem lp_sv5 {X : Ev} {M0 M M' : Hp} {v : Option Value} {op : Int32} {m t d r n tn : Nat} {me ri lt : Int32} (hO : M[138]? = some (.inr (6, [.int (op), .int (nI m), .int (nI t), .int (nI d), .int (nI r), .int (nI n), .int (nI (2 ^ m - 1)), .ref (139), .ref (140), .ref (141), .ref (142), .ref (143), .ref (144), .ref (145), .ref (146), .ref (147), .int (nI tn), .int (me), .int (ri), .int (lt), .ref (148), .ref (149), .ref (150), .ref (151), .ref (152), .ref (153), .ref (154)]))) {pw : Nat → Int32} (hp : M[139]? = some (.inl (0, 8192, .inl (pw)))) {lg : Nat → Int32} (hq : M[140]? = some (.inl (0, 8192, .inl (lg)))) {li : Nat → Nat} (hli : M[153]? = some (.inl (0, 72, .inl (fun j => nI ((li) j))))) (hF : FT pw lg m) {many : Nat} (hm1 : 1 ≤ many) (hm8 : many ≤ 8) {A : Nat → Nat → Nat} (hA : Mb m many A) {ii c : Nat} (hii : ii < many) (hc : c < many) (hic : ii ≠ c) (hf0 : A ii c ≠ 0) {a3 a4 : Int32} (k : G X 1 jX7_solves M0 265 [some (.ref (138)), some (.int (nI many)), some (.int (nI c)), some (.int (a3)), some (.int (a4)), some (.int (nI ii)), some (.int (nI (if ii = c then 0 else A ii c))), some (.int (nI ((many + 1))))] [] (M.set (153) (.inl (0, 72, .inl (fun j => nI ((fl9 (elr m A c ii ((many + 1)))) j))))) v M') : ∀ (zz i : Nat), i + zz = (many + 1) → G X 1 jX7_solves M0 214 [some (.ref (138)), some (.int (nI many)), some (.int (nI c)), some (.int (a3)), some (.int (a4)), some (.int (nI ii)), some (.int (nI (if ii = c then 0 else A ii c))), some (.int (nI i))] [] (M.set (153) (.inl (0, 72, .inl (fun j => nI ((fl9 (elr m A c ii (i))) j))))) v M' := by
  have ht := two_le hF.1.1 hF.1.2
  have hvl := hA ii c hii (by omega)
  intro zz
  induction zz with
  | zero =>
    intro i hjj
    have hjj : i = (many + 1) := by omega
    subst hjj
    refine x_iload dX7_solves_214 rfl ?_
    refine x_iload_n dX7_solves_216 rfl rfl ?_
    refine x_icmp_gt (tgt := 265) dX7_solves_217 (by decide) (fun _ => ?_) (fun h => False.elim (h ((nI_ltI (by omega) (by omega)).mpr (by omega))))
    exact k
  | succ zz ih =>
    intro i hjj
    refine x_iload dX7_solves_214 rfl ?_
    refine x_iload_n dX7_solves_216 rfl rfl ?_
    refine x_icmp_gt (tgt := 265) dX7_solves_217 (by decide) (fun h => False.elim (absurd ((nI_ltI (by omega) (by omega)).mp h) (by omega))) (fun _ => ?_)
    refine x_iload dX7_solves_220 rfl ?_
    refine x_if_eq (tgt := 265) dX7_solves_222 (by decide) (fun h => False.elim (hf0 (by rw [if_neg hic] at h; exact (nI_eq (by omega) (by decide)).mp h))) (fun _ => ?_)
    refine x_aload_n dX7_solves_225 rfl rfl ?_
    refine x_getf (ci := 6) (kf := 25) dX7_solves_226 rfl uX7 (by decide) fl_RX7_54 (gn hO (by decide)) rfl ?_
    refine x_bipush (y := nI 9) dX7_solves_229 rfl ?_
    refine x_iload dX7_solves_231 rfl ?_
    refine x_imul dX7_solves_233 ?_
    refine x_casti (y := nI (9 * ii)) (pk_mul _ _) ?_
    refine x_iload dX7_solves_234 rfl ?_
    refine x_iadd dX7_solves_236 ?_
    refine x_casti (y := nI (9 * ii + i)) (nI_add _ _) ?_
    refine x_dup2 dX7_solves_237 rfl rfl ?_
    refine x_ild (j := 9 * ii + i) dX7_solves_238 (gs hli) rfl (by omega) (by decide) ?_
    refine x_casti (y := nI (A ii i)) (by rw [fl9_at (by omega), elr_out (by omega)]) ?_
    refine x_aload_n dX7_solves_239 rfl rfl ?_
    refine x_iload dX7_solves_240 rfl ?_
    refine x_aload_n dX7_solves_242 rfl rfl ?_
    refine x_getf (ci := 6) (kf := 25) dX7_solves_243 rfl uX7 (by decide) fl_RX7_54 (gn hO (by decide)) rfl ?_
    refine x_bipush (y := nI 9) dX7_solves_246 rfl ?_
    refine x_iload_n dX7_solves_248 rfl rfl ?_
    refine x_imul dX7_solves_249 ?_
    refine x_casti (y := nI (9 * c)) (pk_mul _ _) ?_
    refine x_iload dX7_solves_250 rfl ?_
    refine x_iadd dX7_solves_252 ?_
    refine x_casti (y := nI (9 * c + i)) (nI_add _ _) ?_
    refine x_ild (j := 9 * c + i) dX7_solves_253 (gs hli) rfl (by omega) (by decide) ?_
    refine x_casti (y := nI (A c i)) (by rw [fl9_at (by omega), elr_out (by omega)]) ?_
    refine x_callV (ci := 6) (as := [.int (nI (if ii = c then 0 else A ii c)), .int (nI (A c i))]) dX7_solves_254 mk_X7_by in_X7_by se_X7_by ml_RX7_72 rfl (gn hO (by decide)) (by decide) rfl rfl (Nat.le_of_ble_eq_true rfl) (c_by (gn hO (by decide)) (gn hp (by decide)) (gn hq (by decide)) hF (by rw [if_neg hic]; exact hA ii c hii (by omega)) (hA c i hc (by omega))) ?_
    refine x_ixor dX7_solves_257 ?_
    refine x_casti (y := nI (A ii i ^^^ fmul m (if ii = c then 0 else A ii c) (A c i))) (nI_xor _ _) ?_
    refine x_ist (j := 9 * ii + i) (M1 := (M.set (153) (.inl (0, 72, .inl (fun j => nI ((fl9 (elr m A c ii (i + 1))) j)))))) dX7_solves_258 (gs hli) rfl (by omega) (by decide) (by rw [show upd (fun j => nI ((fl9 (elr m A c ii (i))) j)) (9 * ii + i) (nI (A ii i ^^^ fmul m (if ii = c then 0 else A ii c) (A c i))) = (fun j => nI ((fl9 (elr m A c ii (i + 1))) j)) from (nup_eq.trans (congrArg (fun z : Nat → Nat => fun j => nI (z j)) ((fl9_up (by omega)).trans (congrArg fl9 (elr_up hic)))))] <;> exact (ss0)) ?_
    refine x_iinc (y := nI (i + 1)) (ls' := [some (.ref (138)), some (.int (nI many)), some (.int (nI c)), some (.int (a3)), some (.int (a4)), some (.int (nI ii)), some (.int (nI (if ii = c then 0 else A ii c))), some (.int (nI (i + 1)))]) dX7_solves_259 (by decide) rfl rfl (ii_add _ 1) rfl ?_
    refine x_goto (tgt := 214) dX7_solves_262 (by decide) ?_
    exact ih (i + 1) (by omega)
theorem lp_sv6 {X : Ev} {M0 M M' : Hp} {v : Option Value} {op : Int32} {m t d r n tn : Nat} {me ri lt : Int32} (hO : M[138]? = some (.inr (6, [.int (op), .int (nI m), .int (nI t), .int (nI d), .int (nI r), .int (nI n), .int (nI (2 ^ m - 1)), .ref (139), .ref (140), .ref (141), .ref (142), .ref (143), .ref (144), .ref (145), .ref (146), .ref (147), .int (nI tn), .int (me), .int (ri), .int (lt), .ref (148), .ref (149), .ref (150), .ref (151), .ref (152), .ref (153), .ref (154)]))) {pw : Nat → Int32} (hp : M[139]? = some (.inl (0, 8192, .inl (pw)))) {lg : Nat → Int32} (hq : M[140]? = some (.inl (0, 8192, .inl (lg)))) {li : Nat → Nat} (hli : M[153]? = some (.inl (0, 72, .inl (fun j => nI ((li) j))))) (hF : FT pw lg m) {many : Nat} (hm1 : 1 ≤ many) (hm8 : many ≤ 8) {A : Nat → Nat → Nat} (hA : Mb m many A) {c : Nat} (hc : c < many) {a3 a4 : Int32} (k : G X 1 jX7_solves M0 271 [some (.ref (138)), some (.int (nI many)), some (.int (nI c)), some (.int (a3)), some (.int (a4)), some (.int (nI many)), none, none] [] (M.set (153) (.inl (0, 72, .inl (fun j => nI ((fl9 (elA m A c many (many))) j))))) v M') : ∀ (zz q : Nat), q + zz = many → G X 1 jX7_solves M0 181 [some (.ref (138)), some (.int (nI many)), some (.int (nI c)), some (.int (a3)), some (.int (a4)), some (.int (nI q)), none, none] [] (M.set (153) (.inl (0, 72, .inl (fun j => nI ((fl9 (elA m A c many (q))) j))))) v M' := by
  have ht := two_le hF.1.1 hF.1.2
  intro zz
  induction zz with
  | zero =>
    intro q hqq
    have hqq : q = many := by omega
    subst hqq
    refine x_iload dX7_solves_181 rfl ?_
    refine x_iload_n dX7_solves_183 rfl rfl ?_
    refine x_icmp_ge (tgt := 271) dX7_solves_184 (by decide) (fun _ => ?_) (fun h => False.elim (h (nI_le (Nat.le_refl _) (by omega))))
    exact k
  | succ zz ih =>
    intro q hqq
    have hk := ih (q + 1) (by omega)
    have hAq := (hA.eA_ hF.1.1 hF.1.2 (c := c) (q := q)) q c (by omega) (by omega)
    refine x_iload dX7_solves_181 rfl ?_
    refine x_iload_n dX7_solves_183 rfl rfl ?_
    refine x_icmp_ge (tgt := 271) dX7_solves_184 (by decide) (fun h => False.elim (nI_ge (by omega : q < many) (by omega) h)) (fun _ => ?_)
    refine x_iload dX7_solves_187 rfl ?_
    refine x_iload_n dX7_solves_189 rfl rfl ?_
    refine x_icmp_ne (tgt := 197) dX7_solves_190 (by decide) (fun h190 => ?_) (fun h190 => ?_)
    · refine x_aload_n dX7_solves_197 rfl rfl ?_
      refine x_getf (ci := 6) (kf := 25) dX7_solves_198 rfl uX7 (by decide) fl_RX7_54 (gn hO (by decide)) rfl ?_
      refine x_bipush (y := nI 9) dX7_solves_201 rfl ?_
      refine x_iload dX7_solves_203 rfl ?_
      refine x_imul dX7_solves_205 ?_
      refine x_casti (y := nI (9 * q)) (pk_mul _ _) ?_
      refine x_iload_n dX7_solves_206 rfl rfl ?_
      refine x_iadd dX7_solves_207 ?_
      refine x_casti (y := nI (9 * q + c)) (nI_add _ _) ?_
      refine x_ild (j := 9 * q + c) dX7_solves_208 (gs hli) rfl (by omega) (by decide) ?_
      refine x_casti (y := nI (elA m A c many (q) q c)) (by rw [fl9_at (by omega)]) ?_
      refine x_istore (ls' := [some (.ref (138)), some (.int (nI many)), some (.int (nI c)), some (.int (a3)), some (.int (a4)), some (.int (nI q)), some (.int (nI (elA m A c many (q) q c))), none]) dX7_solves_209 (by decide) rfl rfl ?_
      refine x_iconst (y := nI 0) dX7_solves_211 rfl ?_
      refine x_istore (ls' := [some (.ref (138)), some (.int (nI many)), some (.int (nI c)), some (.int (a3)), some (.int (a4)), some (.int (nI q)), some (.int (nI (elA m A c many (q) q c))), some (.int (nI 0))]) dX7_solves_212 (by decide) rfl rfl ?_
      have hqc : q ≠ c := fun z => h190 (by rw [z])
      by_cases hf0 : elA m A c many (q) q c = 0
      · have hz : elA m A c many (q + 1) = elA m A c many (q) := by rw [← elA_row, elr_f0 (by rw [if_neg hqc]; exact hf0)]
        refine x_iload dX7_solves_214 rfl ?_
        refine x_iload_n dX7_solves_216 rfl rfl ?_
        refine x_icmp_gt (tgt := 265) dX7_solves_217 (by decide) (fun h => False.elim (absurd ((nI_ltI (by omega) (by omega)).mp h) (by omega))) (fun _ => ?_)
        refine x_iload dX7_solves_220 rfl ?_
        refine x_if_eq (tgt := 265) dX7_solves_222 (by decide) (fun _ => ?_) (fun h => False.elim (h (by rw [hf0]; rfl)))
        refine x_iinc (y := nI (q + 1)) (ls' := [some (.ref (138)), some (.int (nI many)), some (.int (nI c)), some (.int (a3)), some (.int (a4)), some (.int (nI (q + 1))), some (.int (nI (elA m A c many (q) q c))), some (.int (nI 0))]) dX7_solves_265 (by decide) rfl rfl (ii_add _ 1) rfl ?_
        refine x_goto (tgt := 181) dX7_solves_268 (by decide) ?_
        rw [hz] at hk
        refine sv_f6 ?_
        exact hk
      · refine G.hp (congrArg (fun z : Nat → Nat → Nat => M.set 153 (.inl (0, 72, .inl (fun j => nI (fl9 z j))))) (elr_0 (m := m) (A := elA m A c many (q)) (c := c) (i := q)).symm) ?_
        rw [show elA m A c many (q) q c = (if q = c then 0 else elA m A c many (q) q c) from (if_neg hqc).symm]
        refine lp_sv5 (A := elA m A c many (q)) (ii := q) hO hp hq hli hF hm1 hm8 (hA.eA_ hF.1.1 hF.1.2) (by omega) hc hqc hf0 ?_ (many + 1) 0 (by omega)
        refine x_iinc (y := nI (q + 1)) (ls' := [some (.ref (138)), some (.int (nI many)), some (.int (nI c)), some (.int (a3)), some (.int (a4)), some (.int (nI (q + 1))), some (.int (nI (if q = c then 0 else elA m A c many (q) q c))), some (.int (nI (many + 1)))]) dX7_solves_265 (by decide) rfl rfl (ii_add _ 1) rfl ?_
        refine x_goto (tgt := 181) dX7_solves_268 (by decide) ?_
        rw [← elA_row] at hk
        refine sv_f6 ?_
        exact hk
    · refine x_iconst (y := nI 0) dX7_solves_193 rfl ?_
      refine x_goto (tgt := 209) dX7_solves_194 (by decide) ?_
      refine x_istore (ls' := [some (.ref (138)), some (.int (nI many)), some (.int (nI c)), some (.int (a3)), some (.int (a4)), some (.int (nI q)), some (.int (nI 0)), none]) dX7_solves_209 (by decide) rfl rfl ?_
      refine x_iconst (y := nI 0) dX7_solves_211 rfl ?_
      refine x_istore (ls' := [some (.ref (138)), some (.int (nI many)), some (.int (nI c)), some (.int (a3)), some (.int (a4)), some (.int (nI q)), some (.int (nI 0)), some (.int (nI 0))]) dX7_solves_212 (by decide) rfl rfl ?_
      have hqc : q = c := (nI_eq (by omega) (by omega)).mp h190
      have hz : elA m A c many (q + 1) = elA m A c many (q) := by rw [← elA_row, elr_f0 (if_pos hqc)]
      refine x_iload dX7_solves_214 rfl ?_
      refine x_iload_n dX7_solves_216 rfl rfl ?_
      refine x_icmp_gt (tgt := 265) dX7_solves_217 (by decide) (fun h => False.elim (absurd ((nI_ltI (by omega) (by omega)).mp h) (by omega))) (fun _ => ?_)
      refine x_iload dX7_solves_220 rfl ?_
      refine x_if_eq (tgt := 265) dX7_solves_222 (by decide) (fun _ => ?_) (fun h => False.elim (h rfl))
      refine x_iinc (y := nI (q + 1)) (ls' := [some (.ref (138)), some (.int (nI many)), some (.int (nI c)), some (.int (a3)), some (.int (a4)), some (.int (nI (q + 1))), some (.int (nI 0)), some (.int (nI 0))]) dX7_solves_265 (by decide) rfl rfl (ii_add _ 1) rfl ?_
      refine x_goto (tgt := 181) dX7_solves_268 (by decide) ?_
      rw [hz] at hk
      refine sv_f6 ?_
      exact hk
theorem frw_nz {A : Nat → Nat → Nat} {c : Nat} : ∀ z row, frw A c z row ≠ row + z → A (frw A c z row) c ≠ 0
  | 0, row, h => absurd rfl h
  | z + 1, row, h => by
    unfold frw at h ⊢
    split
    · rename_i h0
      rw [if_pos h0] at h
      exact frw_nz z (row + 1) (by omega)
    · assumption
theorem lp_sv8 {X : Ev} {M0 M : Hp} {op : Int32} {m t d r n tn : Nat} {me ri lt : Int32} (hO : M[138]? = some (.inr (6, [.int (op), .int (nI m), .int (nI t), .int (nI d), .int (nI r), .int (nI n), .int (nI (2 ^ m - 1)), .ref (139), .ref (140), .ref (141), .ref (142), .ref (143), .ref (144), .ref (145), .ref (146), .ref (147), .int (nI tn), .int (me), .int (ri), .int (lt), .ref (148), .ref (149), .ref (150), .ref (151), .ref (152), .ref (153), .ref (154)]))) {li : Nat → Nat} (hli : M[153]? = some (.inl (0, 72, .inl (fun j => nI ((li) j))))) {lo : Nat → Nat} (hlo : M[154]? = some (.inl (0, 9, .inl (fun j => nI ((lo) j))))) {many : Nat} (hm1 : 1 ≤ many) (hm8 : many ≤ 8) {A : Nat → Nat → Nat} : ∀ (zz q : Nat), q + zz = many → G X 1 jX7_solves M0 286 [some (.ref (138)), some (.int (nI many)), some (.int (nI q)), none, none, none, none, none] [] ((M.set (153) (.inl (0, 72, .inl (fun j => nI ((fl9 (A)) j))))).set (154) (.inl (0, 9, .inl (fun j => nI ((gjo lo A many (q)) j))))) (some (.int (if true then 1 else 0))) ((M.set (153) (.inl (0, 72, .inl (fun j => nI ((fl9 (A)) j))))).set (154) (.inl (0, 9, .inl (fun j => nI ((gjo lo A many (many)) j))))) := by
  intro zz
  induction zz with
  | zero =>
    intro q hqq
    have hqq : q = many := by omega
    subst hqq
    refine x_iload_n dX7_solves_286 rfl rfl ?_
    refine x_iload_n dX7_solves_287 rfl rfl ?_
    refine x_icmp_ge (tgt := 316) dX7_solves_288 (by decide) (fun _ => ?_) (fun h => False.elim (h (nI_le (Nat.le_refl _) (by omega))))
    refine x_iconst (y := nI 1) dX7_solves_316 rfl ?_
    exact x_zreturn_eq dX7_solves_317 rfl rfl
  | succ zz ih =>
    intro q hqq
    refine x_iload_n dX7_solves_286 rfl rfl ?_
    refine x_iload_n dX7_solves_287 rfl rfl ?_
    refine x_icmp_ge (tgt := 316) dX7_solves_288 (by decide) (fun h => False.elim (nI_ge (by omega : q < many) (by omega) h)) (fun _ => ?_)
    refine x_aload_n dX7_solves_291 rfl rfl ?_
    refine x_getf (ci := 6) (kf := 26) dX7_solves_292 rfl uX7 (by decide) fl_RX7_57 (gn (gn hO (by decide)) (by decide)) rfl ?_
    refine x_iload_n dX7_solves_295 rfl rfl ?_
    refine x_iload_n dX7_solves_296 rfl rfl ?_
    refine x_isub dX7_solves_297 ?_
    refine x_casti (y := nI (many - q)) (pk_sub (by omega)) ?_
    refine x_aload_n dX7_solves_298 rfl rfl ?_
    refine x_getf (ci := 6) (kf := 25) dX7_solves_299 rfl uX7 (by decide) fl_RX7_54 (gn (gn hO (by decide)) (by decide)) rfl ?_
    refine x_bipush (y := nI 9) dX7_solves_302 rfl ?_
    refine x_iload_n dX7_solves_304 rfl rfl ?_
    refine x_imul dX7_solves_305 ?_
    refine x_casti (y := nI (9 * q)) (pk_mul _ _) ?_
    refine x_iload_n dX7_solves_306 rfl rfl ?_
    refine x_iadd dX7_solves_307 ?_
    refine x_casti (y := nI (9 * q + many)) (nI_add _ _) ?_
    refine x_ild (j := 9 * q + many) dX7_solves_308 (gn (gs hli) (by decide)) rfl (by omega) (by decide) ?_
    refine x_casti (y := nI (A q many)) (by rw [fl9_at (by omega)]) ?_
    refine x_ist (j := many - q) (M1 := ((M.set (153) (.inl (0, 72, .inl (fun j => nI ((fl9 (A)) j))))).set (154) (.inl (0, 9, .inl (fun j => nI ((gjo lo A many (q + 1)) j)))))) dX7_solves_309 (gs (gn hlo (by decide))) rfl (by omega) (by decide) (by rw [show upd (fun j => nI ((gjo lo A many (q)) j)) (many - q) (nI (A q many)) = (fun j => nI ((gjo lo A many (q + 1)) j)) from (nup_eq.trans (congrArg (fun z : Nat → Nat => fun j => nI (z j)) (gjo_up (by omega))))] <;> exact (ss0)) ?_
    refine x_iinc (y := nI (q + 1)) (ls' := [some (.ref (138)), some (.int (nI many)), some (.int (nI (q + 1))), none, none, none, none, none]) dX7_solves_310 (by decide) rfl rfl (ii_add _ 1) rfl ?_
    refine x_goto (tgt := 286) dX7_solves_313 (by decide) ?_
    exact ih (q + 1) (by omega)
def glo (lo : Nat → Nat) (G : (Nat → Nat → Nat) × Bool) (many : Nat) : Nat → Nat := if G.2 then gjo lo G.1 many many else lo
theorem lp_sv7 {X : Ev} {M0 M : Hp} {op : Int32} {m t d r n tn : Nat} {me ri lt : Int32} (hO : M[138]? = some (.inr (6, [.int (op), .int (nI m), .int (nI t), .int (nI d), .int (nI r), .int (nI n), .int (nI (2 ^ m - 1)), .ref (139), .ref (140), .ref (141), .ref (142), .ref (143), .ref (144), .ref (145), .ref (146), .ref (147), .int (nI tn), .int (me), .int (ri), .int (lt), .ref (148), .ref (149), .ref (150), .ref (151), .ref (152), .ref (153), .ref (154)]))) {pw : Nat → Int32} (hp : M[139]? = some (.inl (0, 8192, .inl (pw)))) {lg : Nat → Int32} (hq : M[140]? = some (.inl (0, 8192, .inl (lg)))) {li : Nat → Nat} (hli : M[153]? = some (.inl (0, 72, .inl (fun j => nI ((li) j))))) {lo : Nat → Nat} (hlo : M[154]? = some (.inl (0, 9, .inl (fun j => nI ((lo) j))))) (hF : FT pw lg m) {many : Nat} (hm1 : 1 ≤ many) (hm8 : many ≤ 8) : ∀ (zz c : Nat) (A : Nat → Nat → Nat), c + zz = many → Mb m many A → G X 1 jX7_solves M0 49 [some (.ref (138)), some (.int (nI many)), some (.int (nI c)), none, none, none, none, none] [] ((M.set (153) (.inl (0, 72, .inl (fun j => nI ((fl9 (A)) j))))).set (154) (.inl (0, 9, .inl (fun j => nI ((lo) j))))) (some (.int (if (gjl m many zz c A).2 then 1 else 0))) ((M.set (153) (.inl (0, 72, .inl (fun j => nI ((fl9 ((gjl m many zz c A).1)) j))))).set (154) (.inl (0, 9, .inl (fun j => nI ((glo lo (gjl m many zz c A) many) j))))) := by
  have ht := two_le hF.1.1 hF.1.2
  intro zz
  induction zz with
  | zero =>
    intro c A hcc hA
    have hcc : c = many := by omega
    subst hcc
    show G X 1 jX7_solves M0 49 _ [] _ (some (.int (if true then 1 else 0))) ((M.set (153) (.inl (0, 72, .inl (fun j => nI ((fl9 (A)) j))))).set (154) (.inl (0, 9, .inl (fun j => nI ((gjo lo A c c) j)))))
    refine x_iload_n dX7_solves_49 rfl rfl ?_
    refine x_iload_n dX7_solves_50 rfl rfl ?_
    refine x_icmp_ge (tgt := 277) dX7_solves_51 (by decide) (fun _ => ?_) (fun h => False.elim (h (nI_le (Nat.le_refl _) (by omega))))
    refine x_aload_n dX7_solves_277 rfl rfl ?_
    refine x_getf (ci := 6) (kf := 26) dX7_solves_278 rfl uX7 (by decide) fl_RX7_57 (gn (gn hO (by decide)) (by decide)) rfl ?_
    refine x_iconst (y := nI 0) dX7_solves_281 rfl ?_
    refine x_iconst (y := nI 1) dX7_solves_282 rfl ?_
    refine x_ist (j := 0) (M1 := ((M.set (153) (.inl (0, 72, .inl (fun j => nI ((fl9 (A)) j))))).set (154) (.inl (0, 9, .inl (fun j => nI ((gjo lo A c 0) j)))))) dX7_solves_283 (gs (gn hlo (by decide))) rfl (by omega) (by decide) (by rw [show upd (fun j => nI ((lo) j)) (0) (nI 1) = (fun j => nI ((gjo lo A c 0) j)) from ((nup_eq (x := 1)).trans (congrArg (fun z : Nat → Nat => fun j => nI (z j)) gjo_0))] <;> exact (ss0)) ?_
    refine x_iconst (y := nI 0) dX7_solves_284 rfl ?_
    refine x_istore_n (ls' := [some (.ref (138)), some (.int (nI c)), some (.int (nI 0)), none, none, none, none, none]) dX7_solves_285 rfl (by decide) rfl rfl ?_
    exact lp_sv8 hO hli hlo hm1 hm8 c 0 (by omega)
  | succ zz ih =>
    intro c A hcc hA
    have hfl := frw_le (A := A) (c := c) (many - c) c
    refine x_iload_n dX7_solves_49 rfl rfl ?_
    refine x_iload_n dX7_solves_50 rfl rfl ?_
    refine x_icmp_ge (tgt := 277) dX7_solves_51 (by decide) (fun h => False.elim (nI_ge (by omega : c < many) (by omega) h)) (fun _ => ?_)
    refine x_iload_n dX7_solves_54 rfl rfl ?_
    refine x_istore_n (ls' := [some (.ref (138)), some (.int (nI many)), some (.int (nI c)), some (.int (nI c)), none, none, none, none]) dX7_solves_55 rfl (by decide) rfl rfl ?_
    refine G.hp (List.set_comm _ _ (by decide)) ?_
    refine lp_sv3 (A := A) (M := ((M.set (154) (.inl (0, 9, .inl (fun j => nI ((lo) j))))).set (153) (.inl (0, 72, .inl (fun j => nI ((fl9 (A)) j)))))) (gn (gn hO (by decide)) (by decide)) (gs (gn hli (by decide))) hm1 hm8 (by omega) hA hF.1.2 (many - c) c (by omega) ?_
    refine x_iload_n dX7_solves_81 rfl rfl ?_
    refine x_iload_n dX7_solves_82 rfl rfl ?_
    refine x_icmp_ne (tgt := 88) dX7_solves_83 (by decide) (fun h83 => ?_) (fun h83 => ?_)
    · have hfm : (frw A c (many - c) c) ≠ many := fun z => h83 (by rw [z])
      have hnz := frw_nz (A := A) (c := c) (many - c) c (by omega)
      have hAr := hA (frw A c (many - c) c) c (by omega) (by omega)
      have hz : gjl m many (zz + 1) c A = gjl m many zz (c + 1) (elA m (swp m A (frw A c (many - c) c) c (finv m (A (frw A c (many - c) c) c)) (many + 1)) c many many) := by show (if _ then _ else _) = _; rw [if_neg hfm]
      rw [hz]
      have hSb := hA.sw_ hF.1.1 hF.1.2 (row := (frw A c (many - c) c)) (c := c) (s := (finv m (A (frw A c (many - c) c) c))) (k := many + 1) (by omega)
      have hk := ih (c + 1) (elA m (swp m A (frw A c (many - c) c) c (finv m (A (frw A c (many - c) c) c)) (many + 1)) c many many) (by omega) (hSb.eA_ hF.1.1 hF.1.2)
      refine x_aload_n dX7_solves_88 rfl rfl ?_
      refine x_aload_n dX7_solves_89 rfl rfl ?_
      refine x_getf (ci := 6) (kf := 25) dX7_solves_90 rfl uX7 (by decide) fl_RX7_54 (gn (gn hO (by decide)) (by decide)) rfl ?_
      refine x_bipush (y := nI 9) dX7_solves_93 rfl ?_
      refine x_iload_n dX7_solves_95 rfl rfl ?_
      refine x_imul dX7_solves_96 ?_
      refine x_casti (y := nI (9 * (frw A c (many - c) c))) (pk_mul _ _) ?_
      refine x_iload_n dX7_solves_97 rfl rfl ?_
      refine x_iadd dX7_solves_98 ?_
      refine x_casti (y := nI (9 * (frw A c (many - c) c) + c)) (nI_add _ _) ?_
      refine x_ild (j := 9 * (frw A c (many - c) c) + c) dX7_solves_99 (gs (gn hli (by decide))) rfl (by omega) (by decide) ?_
      refine x_casti (y := nI (A (frw A c (many - c) c) c)) (by rw [fl9_at (by omega)]) ?_
      refine x_callV (ci := 6) (as := [.int (nI (A (frw A c (many - c) c) c))]) dX7_solves_100 mk_X7_over in_X7_over se_X7_over ml_RX7_132 rfl (gn (gn hO (by decide)) (by decide)) (by decide) rfl rfl (Nat.le_of_ble_eq_true rfl) (c_over (gn (gn hO (by decide)) (by decide)) (gn (gn hp (by decide)) (by decide)) (gn (gn hq (by decide)) (by decide)) hF hnz hAr) ?_
      refine x_istore (ls' := [some (.ref (138)), some (.int (nI many)), some (.int (nI c)), some (.int (nI (frw A c (many - c) c))), some (.int (nI (finv m (A (frw A c (many - c) c) c)))), none, none, none]) dX7_solves_103 (by decide) rfl rfl ?_
      refine x_iconst (y := nI 0) dX7_solves_105 rfl ?_
      refine x_istore (ls' := [some (.ref (138)), some (.int (nI many)), some (.int (nI c)), some (.int (nI (frw A c (many - c) c))), some (.int (nI (finv m (A (frw A c (many - c) c) c)))), some (.int (nI 0)), none, none]) dX7_solves_106 (by decide) rfl rfl ?_
      refine G.hp (congrArg (fun z : Nat → Nat → Nat => ((M.set (154) (.inl (0, 9, .inl (fun j => nI ((lo) j))))).set 153 (.inl (0, 72, .inl (fun j => nI (fl9 z j)))))) (swp_0 (m := m) (A := A) (row := (frw A c (many - c) c)) (c := c) (s := (finv m (A (frw A c (many - c) c) c)))).symm) ?_
      refine lp_sv4 (A := A) (M := (M.set (154) (.inl (0, 9, .inl (fun j => nI ((lo) j)))))) (gn hO (by decide)) (gn hp (by decide)) (gn hq (by decide)) (gn hli (by decide)) hF hm1 hm8 hA (by omega) (by omega) (pwr_lt hF.1.1 hF.1.2 _) ?_ (many + 1) 0 (by omega)
      refine x_iconst (y := nI 0) dX7_solves_178 rfl ?_
      refine x_istore (ls' := [some (.ref (138)), some (.int (nI many)), some (.int (nI c)), some (.int (nI (frw A c (many - c) c))), some (.int (nI (finv m (A (frw A c (many - c) c) c)))), some (.int (nI 0)), none, none]) dX7_solves_179 (by decide) rfl rfl ?_
      refine G.hp (congrArg (fun z : Nat → Nat → Nat => ((M.set (154) (.inl (0, 9, .inl (fun j => nI ((lo) j))))).set 153 (.inl (0, 72, .inl (fun j => nI (fl9 z j)))))) (elA_0 (m := m) (A := swp m A (frw A c (many - c) c) c (finv m (A (frw A c (many - c) c) c)) (many + 1)) (c := c) (many := many)).symm) ?_
      refine sv_f6 ?_
      refine lp_sv6 (A := swp m A (frw A c (many - c) c) c (finv m (A (frw A c (many - c) c) c)) (many + 1)) (M := (M.set (154) (.inl (0, 9, .inl (fun j => nI ((lo) j)))))) (gn hO (by decide)) (gn hp (by decide)) (gn hq (by decide)) (gn hli (by decide)) hF hm1 hm8 hSb (by omega) ?_ many 0 (by omega)
      refine x_iinc (y := nI (c + 1)) (ls' := [some (.ref (138)), some (.int (nI many)), some (.int (nI (c + 1))), some (.int (nI (frw A c (many - c) c))), some (.int (nI (finv m (A (frw A c (many - c) c) c)))), some (.int (nI many)), none, none]) dX7_solves_271 (by decide) rfl rfl (ii_add _ 1) rfl ?_
      refine x_goto (tgt := 49) dX7_solves_274 (by decide) ?_
      refine G.hp (List.set_comm _ _ (by decide)) ?_
      refine sv_f3 ?_
      exact hk
    · have hfm : (frw A c (many - c) c) = many := (nI_eq (by omega) (by omega)).mp h83
      have hz : gjl m many (zz + 1) c A = (A, false) := by show (if _ then _ else _) = _; rw [if_pos hfm]
      rw [hz]
      refine G.hp (show _ = ((M.set (153) (.inl (0, 72, .inl (fun j => nI ((fl9 (A)) j))))).set (154) (.inl (0, 9, .inl (fun j => nI ((lo) j))))) from List.set_comm _ _ (by decide)) ?_
      show G X 1 jX7_solves M0 86 _ [] _ (some (.int (if false then 1 else 0))) ((M.set (153) (.inl (0, 72, .inl (fun j => nI ((fl9 (A)) j))))).set (154) (.inl (0, 9, .inl (fun j => nI ((lo) j)))))
      refine x_iconst (y := nI 0) dX7_solves_86 rfl ?_
      exact x_zreturn_eq dX7_solves_87 rfl rfl
theorem c_solves {X : Ev} {M : Hp} {op : Int32} {m t d r n tn : Nat} {me ri lt : Int32} (hO : M[138]? = some (.inr (6, [.int (op), .int (nI m), .int (nI t), .int (nI d), .int (nI r), .int (nI n), .int (nI (2 ^ m - 1)), .ref (139), .ref (140), .ref (141), .ref (142), .ref (143), .ref (144), .ref (145), .ref (146), .ref (147), .int (nI tn), .int (me), .int (ri), .int (lt), .ref (148), .ref (149), .ref (150), .ref (151), .ref (152), .ref (153), .ref (154)]))) {pw : Nat → Int32} (hp : M[139]? = some (.inl (0, 8192, .inl (pw)))) {lg : Nat → Int32} (hq : M[140]? = some (.inl (0, 8192, .inl (lg)))) {sy : Nat → Nat} (hsy : M[152]? = some (.inl (0, 17, .inl (fun j => nI ((sy) j))))) {li : Nat → Nat} (hli : M[153]? = some (.inl (0, 72, .inl (fun j => nI ((li) j))))) {lo : Nat → Nat} (hlo : M[154]? = some (.inl (0, 9, .inl (fun j => nI ((lo) j))))) (hF : FT pw lg m) {many : Nat} (hm1 : 1 ≤ many) (hm8 : many ≤ 8) (hsb : ∀ j, 1 ≤ j → j ≤ 2 * many → sy j < 2 ^ m) : Cl X 1 jX7_solves [.ref (138), .int (nI many)] M (some (.int (if (gjl m many many 0 (fA (fun a b => li (9 * a + b)) sy many many 0)).2 then 1 else 0))) ((M.set (153) (.inl (0, 72, .inl (fun j => nI ((fl9 ((gjl m many many 0 (fA (fun a b => li (9 * a + b)) sy many many 0)).1)) j))))).set (154) (.inl (0, 9, .inl (fun j => nI ((glo lo (gjl m many many 0 (fA (fun a b => li (9 * a + b)) sy many many 0)) many) j))))) := by
  have hk := lp_sv7 (X := X) (M0 := M) hO hp hq hli hlo hF hm1 hm8 many 0 (fA (fun a b => li (9 * a + b)) sy many many 0) (by omega) (fun a b ha hb => by unfold fA; rw [if_pos (by omega)]; exact hsb _ (by omega) (by omega))
  refine Cl.of (ls := [some (.ref (138)), some (.int (nI many)), none, none, none, none, none, none]) (by decide) rfl (Nat.le_of_ble_eq_true rfl) ?_
  refine x_iconst (y := nI 0) dX7_solves_0 rfl ?_
  refine x_istore_n (ls' := [some (.ref (138)), some (.int (nI many)), some (.int (nI 0)), none, none, none, none, none]) dX7_solves_1 rfl (by decide) rfl rfl ?_
  refine G.hp (show _ = (M.set (153) (.inl (0, 72, .inl (fun j => nI ((fl9 (fA (fun a b => li (9 * a + b)) sy many 0 0)) j))))) from set_id hli (by rw [fA_0, ← fl9_of])) ?_
  refine lp_sv2 (A := (fun a b => li (9 * a + b))) hO hsy hli hm1 hm8 ?_ many 0 (by omega)
  refine x_iconst (y := nI 0) dX7_solves_47 rfl ?_
  refine x_istore_n (ls' := [some (.ref (138)), some (.int (nI many)), some (.int (nI 0)), none, none, none, none, none]) dX7_solves_48 rfl (by decide) rfl rfl ?_
  refine G.hp (set_id (gn hlo (by decide)) (c' := .inl (0, 9, .inl (fun j => nI ((lo) j)))) rfl) ?_
  exact hk
