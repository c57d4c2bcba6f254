theorem c_floorMod {X : Ev} {M : Hp} {i : Int32} {n : Nat} (h0 : 0 < n) (hn : n < 2 ^ 31) : Cl X 0 jJ9_floorMod_7cf53 [.int i, .int (nI n)] M (some (.int (nI (red i n)))) M := by
  refine Cl.ofF (ls := [some (.int (i)), some (.int (nI n)), none]) (by decide +kernel) rfl (Nat.le_of_ble_eq_true rfl) ?_
  have hyp : 0 < (nI n).toInt := by rw [nI_toInt hn]; omega
  have hrem := i32_rem_toInt i (nI n) hyp
  refine x_iload_n dJ9_floorMod_7cf53_0 rfl rfl ?_
  refine x_iload_n dJ9_floorMod_7cf53_1 rfl rfl ?_
  refine x_irem dJ9_floorMod_7cf53_2 (nI_ne0 h0 hn) ?_
  refine x_istore_n (ls' := [some (.int (i)), some (.int (nI n)), some (.int ((i) - (i) / (nI n) * (nI n)))]) dJ9_floorMod_7cf53_3 rfl (by decide) rfl rfl ?_
  refine x_iload_n dJ9_floorMod_7cf53_4 rfl rfl ?_
  refine x_iload_n dJ9_floorMod_7cf53_5 rfl rfl ?_
  refine x_ixor dJ9_floorMod_7cf53_6 ?_
  refine x_if_ge (tgt := 18) dJ9_floorMod_7cf53_7 (by decide) (fun h7 => ?_) (fun h7 => ?_)
  · refine x_iload_n dJ9_floorMod_7cf53_18 rfl rfl ?_
    exact x_ireturn_eq dJ9_floorMod_7cf53_19 rfl (fm_pos h0 hn (by first | (rw [h11]; decide) | (rw [hrem]; exact Int.tmod_nonneg _ ((i32_xor_ge i (nI n) hyp).mp h7))))
  · have h8 : i.toInt < 0 := Int.not_le.mp (fun z => h7 ((i32_xor_ge i (nI n) hyp).mpr z))
    have h9 : (i - i / nI n * nI n).toInt ≤ 0 := by
      have := Int.tmod_nonneg (a := -i.toInt) (nI n).toInt (by omega)
      rw [Int.neg_tmod] at this
      rw [hrem]; omega
    refine x_iload_n dJ9_floorMod_7cf53_10 rfl rfl ?_
    refine x_if_eq (tgt := 18) dJ9_floorMod_7cf53_11 (by decide) (fun h11 => ?_) (fun h11 => ?_)
    · refine x_iload_n dJ9_floorMod_7cf53_18 rfl rfl ?_
      exact x_ireturn_eq dJ9_floorMod_7cf53_19 rfl (fm_pos h0 hn (by first | (rw [h11]; decide) | (rw [hrem]; exact Int.tmod_nonneg _ ((i32_xor_ge i (nI n) hyp).mp h7))))
    · refine x_iload_n dJ9_floorMod_7cf53_14 rfl rfl ?_
      refine x_iload_n dJ9_floorMod_7cf53_15 rfl rfl ?_
      refine x_iadd dJ9_floorMod_7cf53_16 ?_
      exact x_ireturn_eq dJ9_floorMod_7cf53_17 rfl (fm_neg h0 hn (by have : (i - i / nI n * nI n).toInt ≠ 0 := fun z => h11 (Int32.toInt_inj.mp z); omega))
theorem c_min {X : Ev} {M : Hp} {a b : Nat} (ha : a < 2 ^ 31) (hb : b < 2 ^ 31) : Cl X 0 jJ9_min_7cf53 [.int (nI a), .int (nI b)] M (some (.int (nI (min a b)))) M := by
  refine Cl.ofF (ls := [some (.int (nI a)), some (.int (nI b))]) (by decide +kernel) rfl (Nat.le_of_ble_eq_true rfl) ?_
  refine x_iload_n dJ9_min_7cf53_0 rfl rfl ?_
  refine x_iload_n dJ9_min_7cf53_1 rfl rfl ?_
  refine x_icmp_gt (tgt := 9) dJ9_min_7cf53_2 (by decide) (fun h2 => ?_) (fun h2 => ?_)
  · refine x_iload_n dJ9_min_7cf53_9 rfl rfl ?_
    exact x_ireturn_eq dJ9_min_7cf53_10 rfl (by rw [Nat.min_eq_right]; have := (nI_ltI hb ha).mp h2; omega)
  · refine x_iload_n dJ9_min_7cf53_5 rfl rfl ?_
    refine x_goto (tgt := 10) dJ9_min_7cf53_6 (by decide) ?_
    exact x_ireturn_eq dJ9_min_7cf53_10 rfl (by rw [Nat.min_eq_left]; have := (nI_ltI hb ha).mpr; exact Nat.le_of_not_lt (fun z => h2 (this z)))
theorem fill_step {x : Int32} {f : Nat → Int32} {i : Nat} : upd (fun j => if j < i then x else f j) i x = (fun j => if j < i + 1 then x else f j) := by
  funext j
  by_cases h : j = i
  · subst h; simp [upd]
  · rw [pk_un h]; by_cases h2 : j < i
    · show (if j < i then x else f j) = _; rw [if_pos h2, if_pos (by omega)]
    · show (if j < i then x else f j) = _; rw [if_neg h2, if_neg (by omega)]
theorem fill_stepL {x : Int64} {f : Nat → Int64} {i : Nat} : vp_updL (fun j => if j < i then x else f j) i x = (fun j => if j < i + 1 then x else f j) := by
  funext j
  by_cases h : j = i
  · subst h; simp [vp_updL]
  · rw [pk_uLn h]; by_cases h2 : j < i
    · show (if j < i then x else f j) = _; rw [if_pos h2, if_pos (by omega)]
    · show (if j < i then x else f j) = _; rw [if_neg h2, if_neg (by omega)]
theorem set_id {M : Hp} {a : Nat} {c c' : Cel} (h : M[a]? = some c) (e : c' = c) : M = M.set a c' := by
  subst e
  apply List.ext_getElem?
  intro j
  by_cases hj : a = j
  · subst hj; rw [gs h, h]
  · rw [List.getElem?_set_ne hj]
theorem Sc.i0 {t n : Nat} {x : Int32} {f : Nat → Int32} : (.inl (t, n, .inl (fun j => if j < 0 then x else f j)) : Cel) = .inl (t, n, .inl f) := by
  have e : (fun j => if j < 0 then x else f j) = f := by funext j; simp
  rw [e]
theorem Sc.l0 {t n : Nat} {x : Int64} {f : Nat → Int64} : (.inl (t, n, .inr (.inl (fun j => if j < 0 then x else f j))) : Cel) = .inl (t, n, .inr (.inl f)) := by
  have e : (fun j => if j < 0 then x else f j) = f := by funext j; simp
  rw [e]
theorem lp_filli {X : Ev} {d : Nat} {M0 M M' : Hp} {v : Option Value} {a n : Nat} {x : Int32} {f : Nat → Int32} (hM : M[a]? = some (.inl (0, n, .inl (f)))) (hn : n < 2 ^ 31) (k : G X d jJ7_fill_53178 M0 20 [some (.ref (a)), some (.int (x)), some (.int (nI n)), some (.int (nI n))] [] (M.set a (.inl (0, n, .inl (fun j => if j < n then x else f j)))) v M') :
    ∀ (r i : Nat), i + r = n → G X d jJ7_fill_53178 M0 5 [some (.ref (a)), some (.int (x)), some (.int (nI i)), some (.int (nI n))] [] (M.set a (.inl (0, n, .inl (fun j => if j < i then x else f j)))) v M' := by
  intro r
  induction r with
  | zero =>
    intro i hi
    have hi : i = n := by omega
    subst hi
    refine x_iload_n dJ7_fill_53178_5 rfl rfl ?_
    refine x_iload_n dJ7_fill_53178_6 rfl rfl ?_
    refine x_icmp_ge (tgt := 20) dJ7_fill_53178_7 (by decide) (fun _ => ?_) (fun h => False.elim (h (nI_le (Nat.le_refl _) hn)))
    exact k
  | succ r ih =>
    intro i hi
    refine x_iload_n dJ7_fill_53178_5 rfl rfl ?_
    refine x_iload_n dJ7_fill_53178_6 rfl rfl ?_
    refine x_icmp_ge (tgt := 20) dJ7_fill_53178_7 (by decide) (fun h => False.elim (nI_ge (by omega : i < n) hn h)) (fun _ => ?_)
    refine x_aload_n dJ7_fill_53178_10 rfl rfl ?_
    refine x_iload_n dJ7_fill_53178_11 rfl rfl ?_
    refine x_iload_n dJ7_fill_53178_12 rfl rfl ?_
    refine x_ist (j := i) (M1 := (M.set (a) (.inl (0, n, .inl (fun j => if j < i + 1 then x else f j))))) dJ7_fill_53178_13 (gs hM) rfl (by omega) hn (by rw [show upd (fun j => if j < i then x else f j) (i) (x) = (fun j => if j < i + 1 then x else f j) from fill_step]; exact (ss0)) ?_
    refine x_iinc (y := nI (i + 1)) (ls' := [some (.ref (a)), some (.int (x)), some (.int (nI (i + 1))), some (.int (nI n))]) dJ7_fill_53178_14 (by decide) rfl rfl (ii_add _ 1) rfl ?_
    refine x_goto (tgt := 5) dJ7_fill_53178_17 (by decide) ?_
    exact ih (i + 1) (by omega)
theorem c_filli {X : Ev} {M : Hp} {a n : Nat} {x : Int32} {f : Nat → Int32} (hM : M[a]? = some (.inl (0, n, .inl (f)))) (hn : n < 2 ^ 31) : Cl X 0 jJ7_fill_53178 [.ref a, .int x] M none (M.set a (.inl (0, n, .inl (fun _ => x)))) := by
  refine Cl.of (ls := [some (.ref (a)), some (.int (x)), none, none]) (by decide) rfl (Nat.le_of_ble_eq_true rfl) ?_
  refine x_iconst (y := nI 0) dJ7_fill_53178_0 rfl ?_
  refine x_istore_n (ls' := [some (.ref (a)), some (.int (x)), some (.int (nI 0)), none]) dJ7_fill_53178_1 rfl (by decide) rfl rfl ?_
  refine x_aload_n dJ7_fill_53178_2 rfl rfl ?_
  refine x_alen dJ7_fill_53178_3 (by decide) hM rfl ?_
  refine x_istore_n (ls' := [some (.ref (a)), some (.int (x)), some (.int (nI 0)), some (.int (nI n))]) dJ7_fill_53178_4 rfl (by decide) rfl rfl ?_
  refine G.hp (set_id hM (Sc.i0 (x := x) (f := f))) (lp_filli hM hn (G.post (Sm.set1 (Sc.i (fun j hj => if_pos hj))) (x_ret dJ7_fill_53178_20 rfl)) n 0 (by omega))
theorem lp_filll {X : Ev} {d : Nat} {M0 M M' : Hp} {v : Option Value} {a n : Nat} {x : Int64} {f : Nat → Int64} (hM : M[a]? = some (.inl (1, n, .inr (.inl (f))))) (hn : n < 2 ^ 31) (k : G X d jJ7_fill_d0a16 M0 22 [some (.ref (a)), some (.long (x)), none, some (.int (nI n)), some (.int (nI n))] [] (M.set a (.inl (1, n, .inr (.inl (fun j => if j < n then x else f j))))) v M') :
    ∀ (r i : Nat), i + r = n → G X d jJ7_fill_d0a16 M0 6 [some (.ref (a)), some (.long (x)), none, some (.int (nI i)), some (.int (nI n))] [] (M.set a (.inl (1, n, .inr (.inl (fun j => if j < i then x else f j))))) v M' := by
  intro r
  induction r with
  | zero =>
    intro i hi
    have hi : i = n := by omega
    subst hi
    refine x_iload_n dJ7_fill_d0a16_6 rfl rfl ?_
    refine x_iload dJ7_fill_d0a16_7 rfl ?_
    refine x_icmp_ge (tgt := 22) dJ7_fill_d0a16_9 (by decide) (fun _ => ?_) (fun h => False.elim (h (nI_le (Nat.le_refl _) hn)))
    exact k
  | succ r ih =>
    intro i hi
    refine x_iload_n dJ7_fill_d0a16_6 rfl rfl ?_
    refine x_iload dJ7_fill_d0a16_7 rfl ?_
    refine x_icmp_ge (tgt := 22) dJ7_fill_d0a16_9 (by decide) (fun h => False.elim (nI_ge (by omega : i < n) hn h)) (fun _ => ?_)
    refine x_aload_n dJ7_fill_d0a16_12 rfl rfl ?_
    refine x_iload_n dJ7_fill_d0a16_13 rfl rfl ?_
    refine x_lload_n dJ7_fill_d0a16_14 rfl rfl ?_
    refine x_lst (j := i) (M1 := (M.set (a) (.inl (1, n, .inr (.inl (fun j => if j < i + 1 then x else f j)))))) dJ7_fill_d0a16_15 (gs hM) rfl (by omega) hn (by rw [show vp_updL (fun j => if j < i then x else f j) (i) (x) = (fun j => if j < i + 1 then x else f j) from fill_stepL]; exact (ss0)) ?_
    refine x_iinc (y := nI (i + 1)) (ls' := [some (.ref (a)), some (.long (x)), none, some (.int (nI (i + 1))), some (.int (nI n))]) dJ7_fill_d0a16_16 (by decide) rfl rfl (ii_add _ 1) rfl ?_
    refine x_goto (tgt := 6) dJ7_fill_d0a16_19 (by decide) ?_
    exact ih (i + 1) (by omega)
theorem c_filll {X : Ev} {M : Hp} {a n : Nat} {x : Int64} {f : Nat → Int64} (hM : M[a]? = some (.inl (1, n, .inr (.inl (f))))) (hn : n < 2 ^ 31) : Cl X 0 jJ7_fill_d0a16 [.ref a, .long x] M none (M.set a (.inl (1, n, .inr (.inl (fun _ => x))))) := by
  refine Cl.of (ls := [some (.ref (a)), some (.long (x)), none, none, none]) (by decide) rfl (Nat.le_of_ble_eq_true rfl) ?_
  refine x_iconst (y := nI 0) dJ7_fill_d0a16_0 rfl ?_
  refine x_istore_n (ls' := [some (.ref (a)), some (.long (x)), none, some (.int (nI 0)), none]) dJ7_fill_d0a16_1 rfl (by decide) rfl rfl ?_
  refine x_aload_n dJ7_fill_d0a16_2 rfl rfl ?_
  refine x_alen dJ7_fill_d0a16_3 (by decide) hM rfl ?_
  refine x_istore (ls' := [some (.ref (a)), some (.long (x)), none, some (.int (nI 0)), some (.int (nI n))]) dJ7_fill_d0a16_4 (by decide) rfl rfl ?_
  refine G.hp (set_id hM (Sc.l0 (x := x) (f := f))) (lp_filll hM hn (G.post (Sm.set1 (Sc.l (fun j hj => if_pos hj))) (x_ret dJ7_fill_d0a16_22 rfl)) n 0 (by omega))
