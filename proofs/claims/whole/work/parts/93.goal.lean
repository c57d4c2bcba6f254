/-! THE BEGINNING AND THE END -/
theorem re_init {L : Hp} (h : PX L) : RE (L ++ [.inr (6, [.int (0), .int (0), .int (0), .int (0), .int (0), .int (0), .int (0), .ref (L.length + 1), .ref (L.length + 2), .ref (L.length + 3), .ref (L.length + 4), .ref (L.length + 5), .ref (L.length + 6), .ref (L.length + 7), .ref (L.length + 8), .ref (L.length + 9), .int (0), .int (0), .int (0), .int (0), .ref (L.length + 10), .ref (L.length + 11), .ref (L.length + 12), .ref (L.length + 13), .ref (L.length + 14), .ref (L.length + 15), .ref (L.length + 16)]), .inl (0, 8192, .inl (fun _ => 0)), .inl (0, 8192, .inl (fun _ => 0)), .inl (0, 210, .inl (fun _ => 0)), .inl (0, 256, .inl (fun _ => 0)), .inl (2, 35200, .inl (fun _ => 0)), .inl (0, 35200, .inl (fun _ => 0)), .inl (2, 35200, .inl (fun _ => 0)), .inl (0, 16, .inl (fun _ => 0)), .inl (0, 2200, .inl (fun _ => 0)), .inl (0, 16, .inl (fun _ => 0)), .inl (0, 210, .inl (fun _ => 0)), .inl (2, 2200, .inl (fun _ => 0)), .inl (0, 110, .inl (fun _ => 0)), .inl (0, 17, .inl (fun _ => 0)), .inl (0, 72, .inl (fun _ => 0)), .inl (0, 9, .inl (fun _ => 0))]) := by
  obtain ⟨hl, a0, ap, a21, aP, a134, a135, a136, a137⟩ := h
  rw [hl]
  refine Or.inl ⟨0, 0, 0, 0, 0, 0, fun _ => 0, fun _ => 0, fun _ => 0, fun _ => false, fun _ => 0, fun _ => 0, fun _ => 0, ((0, 0), fun _ => 0, fun _ => 0, fun _ => 0, fun _ => 0, fun _ => 0, fun _ => 0, fun _ => some 0, fun _ => 0), fun _ => (0, fun _ => 0, fun _ => 0, fun _ => 0), fun _ => 0, fun _ => 0, 0, 0, 0, 0, 0, 0, 0, 0, fun _ => 0, fun _ => 0, fun _ => false, fun _ => 0, fun _ => false, fun _ => 0, fun _ => false, fun _ => 0, fun _ => 0, fun _ => 0, fun _ => false, fun _ => false, (fun _ => false, fun _ => 0, fun _ => 0, fun _ => 0), ⟨ap_low a0, ap_low ((ap 1 (by decide) (by decide)).trans rfl), ap_low ((ap 2 (by decide) (by decide)).trans rfl), ap_low ((ap 3 (by decide) (by decide)).trans rfl), ap_low ((ap 4 (by decide) (by decide)).trans rfl), ap_low ((ap 5 (by decide) (by decide)).trans rfl), ap_low ((ap 6 (by decide) (by decide)).trans rfl), ap_low ((ap 7 (by decide) (by decide)).trans rfl), ap_low ((ap 8 (by decide) (by decide)).trans rfl), ap_low ((ap 9 (by decide) (by decide)).trans rfl), ap_low ((ap 10 (by decide) (by decide)).trans rfl), ap_low ((ap 11 (by decide) (by decide)).trans rfl), ap_low ((ap 12 (by decide) (by decide)).trans rfl), ap_low ((ap 13 (by decide) (by decide)).trans rfl), ap_low ((ap 14 (by decide) (by decide)).trans rfl), ap_low ((ap 15 (by decide) (by decide)).trans rfl), ap_low ((ap 16 (by decide) (by decide)).trans rfl), ap_low ((ap 17 (by decide) (by decide)).trans rfl), ap_low ((ap 18 (by decide) (by decide)).trans rfl), ap_low ((ap 19 (by decide) (by decide)).trans rfl), ap_low ((ap 20 (by decide) (by decide)).trans rfl), ap_low a21, fun j hj => (aP j hj).ag (fun p h1 h2 => List.getElem?_append_left (by omega)), ap_low a134, ap_low a135, ap_low a136, ap_low a137⟩, ⟨(List.getElem?_append_right (by omega)).trans (by rw [hl]; rfl), (List.getElem?_append_right (by omega)).trans (by rw [hl]; rfl), (List.getElem?_append_right (by omega)).trans (by rw [hl]; rfl), (List.getElem?_append_right (by omega)).trans (by rw [hl]; rfl), (List.getElem?_append_right (by omega)).trans (by rw [hl]; rfl), (List.getElem?_append_right (by omega)).trans (by rw [hl]; rfl), (List.getElem?_append_right (by omega)).trans (by rw [hl]; rfl), (List.getElem?_append_right (by omega)).trans (by rw [hl]; rfl), (List.getElem?_append_right (by omega)).trans (by rw [hl]; rfl), (List.getElem?_append_right (by omega)).trans (by rw [hl]; rfl), (List.getElem?_append_right (by omega)).trans (by rw [hl]; rfl), (List.getElem?_append_right (by omega)).trans (by rw [hl]; rfl), (List.getElem?_append_right (by omega)).trans (by rw [hl]; rfl), (List.getElem?_append_right (by omega)).trans (by rw [hl]; rfl), (List.getElem?_append_right (by omega)).trans (by rw [hl]; rfl), (List.getElem?_append_right (by omega)).trans (by rw [hl]; rfl), (List.getElem?_append_right (by omega)).trans (by rw [hl]; rfl)⟩, by rw [List.length_append, hl]; rfl, rfl, rfl⟩
theorem sl_le {B : Nat} : ∀ M : Hp, (∀ c ∈ M, csz c ≤ B) → sl M ≤ B * M.length
  | [], _ => Nat.zero_le _
  | c :: M, h => by
    have h1 := h c (List.mem_cons_self ..)
    have h2 := sl_le M (fun x hx => h x (List.mem_cons_of_mem _ hx))
    unfold sl at h2 ⊢
    rw [List.map_cons, List.sum_cons, List.length_cons, Nat.mul_succ]
    omega
theorem sz_all {op ra rr rl : Int32} {m t d r n : Nat} {pw lg cf : Nat → Int32} {gp : Nat → Bool} {hs ls on : Nat → Int64} {s : Ms} {pg : Nat → Pg} {uf tf : Nat → Int64} {op' : Int32} {m' t' d' r' n' tn : Nat} {me ri lt : Int32} {pv lh : Nat → Int32} {gg : Nat → Bool} {bu : Nat → Nat} {bb : Nat → Bool} {ss : Nat → Int32} {kk : Nat → Bool} {we : Nat → Int32} {tu md : Nat → Nat} {sp le : Nat → Bool} {sv : Mi} {M : Hp} (hX : XL op ra rr rl m t d r n pw lg cf gp hs ls on s pg uf tf M) (hM : ML op' m' t' d' r' n' tn me ri lt pv lh gg bu bb ss kk we tu md sp le sv M) : ∀ p, p < 155 → ∃ c, M[p]? = some c ∧ csz c ≤ 47000 := fun p hp => by
  obtain ⟨x0, x1, x2, x3, x4, x5, x6, x7, x8, x9, x10, x11, x12, x13, x14, x15, x16, x17, x18, x19, x20, x21, hP, x134, x135, x136, x137⟩ := hX
  obtain ⟨m138, m139, m140, m141, m142, m143, m144, m145, m146, m147, m148, m149, m150, m151, m152, m153, m154⟩ := hM
  by_cases h1 : p < 22
  · match p, h1 with
    | 0, _ => exact ⟨_, x0, Nat.le_of_ble_eq_true rfl⟩
    | 1, _ => exact ⟨_, x1, Nat.le_of_ble_eq_true rfl⟩
    | 2, _ => exact ⟨_, x2, Nat.le_of_ble_eq_true rfl⟩
    | 3, _ => exact ⟨_, x3, Nat.le_of_ble_eq_true rfl⟩
    | 4, _ => exact ⟨_, x4, Nat.le_of_ble_eq_true rfl⟩
    | 5, _ => exact ⟨_, x5, Nat.le_of_ble_eq_true rfl⟩
    | 6, _ => exact ⟨_, x6, Nat.le_of_ble_eq_true rfl⟩
    | 7, _ => exact ⟨_, x7, Nat.le_of_ble_eq_true rfl⟩
    | 8, _ => exact ⟨_, x8, Nat.le_of_ble_eq_true rfl⟩
    | 9, _ => exact ⟨_, x9, Nat.le_of_ble_eq_true rfl⟩
    | 10, _ => exact ⟨_, x10, Nat.le_of_ble_eq_true rfl⟩
    | 11, _ => exact ⟨_, x11, Nat.le_of_ble_eq_true rfl⟩
    | 12, _ => exact ⟨_, x12, Nat.le_of_ble_eq_true rfl⟩
    | 13, _ => exact ⟨_, x13, Nat.le_of_ble_eq_true rfl⟩
    | 14, _ => exact ⟨_, x14, Nat.le_of_ble_eq_true rfl⟩
    | 15, _ => exact ⟨_, x15, Nat.le_of_ble_eq_true rfl⟩
    | 16, _ => exact ⟨_, x16, Nat.le_of_ble_eq_true rfl⟩
    | 17, _ => exact ⟨_, x17, Nat.le_of_ble_eq_true rfl⟩
    | 18, _ => exact ⟨_, x18, Nat.le_of_ble_eq_true rfl⟩
    | 19, _ => exact ⟨_, x19, Nat.le_of_ble_eq_true rfl⟩
    | 20, _ => exact ⟨_, x20, Nat.le_of_ble_eq_true rfl⟩
    | 21, _ => exact ⟨_, x21, Nat.le_of_ble_eq_true rfl⟩
    | k + 22, h => exact absurd h (by omega)
  · by_cases h2 : p < 134
    · obtain ⟨i, j, hi, hj, rfl⟩ : ∃ i j, i < 16 ∧ j < 7 ∧ p = 22 + 7 * i + j := ⟨(p - 22) / 7, (p - 22) % 7, by omega, by omega, by omega⟩
      have hp_ := hP i hi
      match j, hj with
      | 0, _ => exact ⟨_, hp_.1, Nat.le_of_ble_eq_true rfl⟩
      | 1, _ => exact ⟨_, hp_.2.1, Nat.le_of_ble_eq_true rfl⟩
      | 2, _ => exact ⟨_, hp_.2.2.1, Nat.le_of_ble_eq_true rfl⟩
      | 3, _ => exact ⟨_, hp_.2.2.2.1, Nat.le_of_ble_eq_true rfl⟩
      | 4, _ => exact ⟨_, hp_.2.2.2.2.1, Nat.le_of_ble_eq_true rfl⟩
      | 5, _ => exact ⟨_, hp_.2.2.2.2.2.1, Nat.le_of_ble_eq_true rfl⟩
      | 6, _ => exact ⟨_, hp_.2.2.2.2.2.2, Nat.le_of_ble_eq_true rfl⟩
      | k + 7, h => exact absurd h (by omega)
    · obtain ⟨q, rfl⟩ : ∃ q, p = 134 + q := ⟨p - 134, by omega⟩
      have hq : q < 21 := by omega
      match q, hq with
      | 0, _ => exact ⟨_, x134, Nat.le_of_ble_eq_true rfl⟩
      | 1, _ => exact ⟨_, x135, Nat.le_of_ble_eq_true rfl⟩
      | 2, _ => exact ⟨_, x136, Nat.le_of_ble_eq_true rfl⟩
      | 3, _ => exact ⟨_, x137, Nat.le_of_ble_eq_true rfl⟩
      | 4, _ => exact ⟨_, m138, Nat.le_of_ble_eq_true rfl⟩
      | 5, _ => exact ⟨_, m139, Nat.le_of_ble_eq_true rfl⟩
      | 6, _ => exact ⟨_, m140, Nat.le_of_ble_eq_true rfl⟩
      | 7, _ => exact ⟨_, m141, Nat.le_of_ble_eq_true rfl⟩
      | 8, _ => exact ⟨_, m142, Nat.le_of_ble_eq_true rfl⟩
      | 9, _ => exact ⟨_, m143, Nat.le_of_ble_eq_true rfl⟩
      | 10, _ => exact ⟨_, m144, Nat.le_of_ble_eq_true rfl⟩
      | 11, _ => exact ⟨_, m145, Nat.le_of_ble_eq_true rfl⟩
      | 12, _ => exact ⟨_, m146, Nat.le_of_ble_eq_true rfl⟩
      | 13, _ => exact ⟨_, m147, Nat.le_of_ble_eq_true rfl⟩
      | 14, _ => exact ⟨_, m148, Nat.le_of_ble_eq_true rfl⟩
      | 15, _ => exact ⟨_, m149, Nat.le_of_ble_eq_true rfl⟩
      | 16, _ => exact ⟨_, m150, Nat.le_of_ble_eq_true rfl⟩
      | 17, _ => exact ⟨_, m151, Nat.le_of_ble_eq_true rfl⟩
      | 18, _ => exact ⟨_, m152, Nat.le_of_ble_eq_true rfl⟩
      | 19, _ => exact ⟨_, m153, Nat.le_of_ble_eq_true rfl⟩
      | 20, _ => exact ⟨_, m154, Nat.le_of_ble_eq_true rfl⟩
      | k + 21, h => exact absurd h (by omega)
theorem RE.sz {M : Hp} (h : RE M) : M.length ≤ 600000 ∧ sl M ≤ 7302250 := by
  have key : M.length = 155 ∧ ∀ p, p < 155 → ∃ c, M[p]? = some c ∧ csz c ≤ 47000 := by
    rcases h with hR | hR
    · obtain ⟨ra, rr, rl, t, d, r, pw, lg, cf, gp, hs, ls, on, s, pg, uf, tf, m', t', d', r', n', me, ri, lt, pv, lh, gg, bu, bb, ss, kk, we, tu, md, sp, le, sv, hX, hM, hlen, hs0, hl0⟩ := hR
      exact ⟨hlen, sz_all hX hM⟩
    · obtain ⟨ra, rr, rl, m, t, d, r, n, pw, lg, cf, gp, hs, ls, on, s, pg, uf, tf, tn, pv, lh, gg, bu, bb, ss, kk, we, tu, md, sp, le, sv, hX, hM, hlen, hC, hF, hF2, hgg, hon, hB, hPA, hT⟩ := hR
      exact ⟨hlen, sz_all hX hM⟩
  refine ⟨by omega, Nat.le_trans (sl_le (B := 47000) M (fun c hc => ?_)) (by rw [key.1]; decide)⟩
  obtain ⟨p, hp, rfl⟩ := List.mem_iff_getElem.mp hc
  obtain ⟨c, h1, h2⟩ := key.2 p (by omega)
  rw [List.getElem?_eq_getElem hp] at h1
  cases h1
  exact h2
theorem law_goal : LawGoal := fun X hL => by
  obtain ⟨L, hI, hP⟩ := c_pmInit (X := X)
  obtain ⟨M', hk, hR'⟩ := lp_law hL 2048 0 _ (by omega) (by omega) (Nat.le_refl _) (re_init hP)
  refine ⟨M', ?_, hR'.sz⟩
  have e : L.length + 0 = 138 := hP.1
  refine x_newP (p := 0) (ci := 5) (ty := tyX6) (fs := [.null, .null, .null, .null, .null, .null, .int (0), .int (0), .int (0), .int (0)]) (M1 := [.inr (5, [.null, .null, .null, .null, .null, .null, .int (0), .int (0), .int (0), .int (0)])]) dL_law_0 rfl uX6 tyX6_ok cl_RL_7 ins_6 ini_6 (by decide) rfl rfl rfl rfl ?_
  refine x_dup dL_law_3 rfl ?_
  refine x_callI (as := []) dL_law_4 mk_X6_init rfl rfl in_X6_init ml_RL_9 (by decide) rfl rfl (Nat.le_of_ble_eq_true rfl) hI ?_
  refine x_astore_n (ls' := [some (.retAddr 0), some (.ref 0), none, none]) dL_law_7 rfl (by decide) rfl rfl ?_
  refine x_newP (p := L.length + 0) (ci := 6) (ty := tyX7) (fs := [.int (0), .int (0), .int (0), .int (0), .int (0), .int (0), .int (0), .null, .null, .null, .null, .null, .null, .null, .null, .null, .int (0), .int (0), .int (0), .int (0), .null, .null, .null, .null, .null, .null, .null]) (M1 := L ++ [.inr (6, [.int (0), .int (0), .int (0), .int (0), .int (0), .int (0), .int (0), .null, .null, .null, .null, .null, .null, .null, .null, .null, .int (0), .int (0), .int (0), .int (0), .null, .null, .null, .null, .null, .null, .null])]) dL_law_8 rfl uX7 tyX7_ok cl_RL_10 ins_7 ini_7 (by decide) rfl rfl rfl rfl ?_
  refine x_dup dL_law_11 rfl ?_
  refine x_callI (as := []) dL_law_12 mk_X7_init rfl rfl in_X7_init ml_RL_12 (by decide) rfl rfl (Nat.le_of_ble_eq_true rfl) c_modelInit ?_
  refine x_astore_n (ls' := [some (.retAddr 0), some (.ref 0), some (.ref (L.length + 0)), none]) dL_law_15 rfl (by decide) rfl rfl ?_
  refine x_iconst (y := nI 0) dL_law_16 rfl ?_
  refine x_istore_n (ls' := [some (.retAddr 0), some (.ref 0), some (.ref (L.length + 0)), some (.int (nI 0))]) dL_law_17 rfl (by decide) rfl rfl ?_
  rw [e]
  exact hk
