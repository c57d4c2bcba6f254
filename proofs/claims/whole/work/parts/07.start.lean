/-! THE CLAIM OUT OF ONE WALK OF THE LAW'S BODY. Your part is whole_start (and what it stands on); all else here is the same for every law, but numbers. -/
def R_law : String := "PageMenderLaw"
def lw_P (b : Addr) (xs : List Int32) (args : Array Value) (s : State) : Prop := args = #[.ref b] ∧ s.IntsAt b xs ∧ xs.length ≤ 2048 ∧ (Jvm.Cond.and given_1 narrow_1).before args s = true
def lw_Q (_ : Array Value) (s : State) (o : Outcome) (t : State) : Prop := o = .returned (some (.int 1)) ∧ Framed s o t [] 600000 7302250
def lw_Z (below : List Frame) (a : Array Value) (s : State) : State → Prop := fun t => ∃ o, t.status = .running ∧ Ended t below o ∧ lw_Q a s o t
/-- the law's own end, with 1 on the stack, nothing written that was there before, its room as the claim has it -/
theorem lw_ret {p : Program} {l : Launch} {e : Env} {s : State} {m : MethodId} {below : List Frame} {meth : Method} {c : Code} {b : Nat} (hx : p.tables.exec = Jvm.exec) (hb : c.code = code) (hr : meth.sig.returnType = ret) (hlocks : meth.locks = false) {pc : Nat} {H : Heap} {ls : Array Slot} (hdg : decode code pc = .ok (.ireturn, 1)) : W p l e room_1 s m #[Value.ref b] below meth c H [] 600000 7302250 (lw_Z below #[Value.ref b] s) (F0 m pc ls [.int 1]) := by
  intro T hT X
  obtain ⟨fs, hret, hrun, hended, hW, hframe⟩ := X.leave (v := some (.int 1)) (hlocks := hlocks) (fun h => by rw [hr] at h; cases h)
  have hmeth' : T.vm.method? m = some meth := X.method'
  refine ⟨T.setFrames fs, ?_, .returned (some (.int 1)), hrun, hended, rfl, ⟨_, rfl⟩, hW, hframe⟩
  jvm_step X.here [X.here.top, hx, hb, hdg, hmeth', hr, ret, narrow_b1]
  (try refine ⟨rfl, ?_⟩); (try refine ⟨rfl, ?_⟩)
  first | (intro acts; rw [hret _ acts rfl rfl rfl]) | rw [hret _ _ rfl rfl rfl]
  exact Steps.refl _
/-- what holds at the law's entry: the machine, the code, the tables' words (any of lw_tbl by 'hts w (by decide +kernel)'), the script of L ints xs at the cell b, what the Statement gives of the start (any of its parts by flat_of_before) -/
def lw_At (p : Program) (s : State) (m : MethodId) (meth : Method) (c : Code) (b L : Nat) (xs : Nat → Int32) : Prop :=
  p.tables.exec = Jvm.exec ∧ c.code = code ∧ meth.sig.returnType = ret ∧ c.maxLocals = 4 ∧ s.vm.findClass R_law = some m.cls ∧ (∀ w ∈ lw_tbl, w.before #[Value.ref b] s = true) ∧ va_X b L xs s s.heap ∧ b < s.heap.size ∧ meth.locks = false ∧ (Jvm.Cond.and given_1 narrow_1).before #[Value.ref b] s = true
/-- what is left, over places alone: the law's code, from its first instruction, over every script of at most 2048 ints, comes to its end with 1, and within the room -/
def LawGoal : Prop := ∀ X : Ev, ev_L X ≤ 2048 → ∃ M' : Hp, G X 10 jL_law [] 0 [some (.retAddr 0), none, none, none] [] [] (some (.int 1)) M' ∧ M'.length ≤ 600000 ∧ sl M' ≤ 7302250
theorem gt_tbl {w : Cond} (h : w ∈ gt) : w ∈ lw_tbl := (List.mem_filter.mp h).1
theorem arr_of {s : State} {args : Array Value} {ty : FieldType} (h : (Cond.arrayClass ty).before args s = true) (hty : ∀ C, ty ≠ .object C) : ∃ c, ArrOfT s c ty ∧ va_RA s c ty := by
  obtain ⟨c, k, comp, h1, h2, h3⟩ := Cond.arrayClass_spec h
  refine ⟨c, fun n z => ⟨fun k h => (by cases h), k, h2, comp, h3⟩, ?_⟩
  cases ty with
  | object C => exact absurd rfl (hty C)
  | _ => exact h1
theorem frame_of {s t : State} {o : Outcome} {L : List Loc} {k n k' n' : Nat} (h : FrameEnd s o t L k n) (hL : ∀ q ∈ L, s.heap.size ≤ q.base) (hk : k ≤ k') (hn : n ≤ n') : Framed s o t [] k' n' :=
  ⟨h.1, h.2.1, State.sameButNew.weaken h.2.2 (fun y hy hlt => absurd hlt (Nat.not_lt.mpr (hL y hy))) hk hn⟩
set_option maxHeartbeats 4000000 in
theorem start_of (hG : LawGoal) {p : Program} {e : Env} {s : State} {m : MethodId} {below : List Frame} {meth : Method} {c : Code} (l : Launch) {b L : Nat} {xs : Nat → Int32} (hL : L ≤ 2048) (C0 : lw_At p s m meth c b L xs) : W p l e room_1 s m #[Value.ref b] below meth c s.heap [] 0 0 (lw_Z below #[Value.ref b] s) (entryFrame m ([Value.ref b] : List Value).toArray 4) := by
  obtain ⟨hx, hb, hr, hml, hown, hts, hX, hbl, hlocks, hgv⟩ := id C0
  have hg : ∀ w ∈ gt, w.before #[Value.ref b] s = true := fun w hw => hts w (gt_tbl hw)
  have hnA : ∀ a : Nat, a < s.heap.size → ¬ (fun q : Nat => s.heap.size ≤ q) a := fun a h => Nat.not_le.mpr h
  obtain ⟨c0, iS0, hKn0⟩ := u_known (C := RX0) (T := TX0) (N := 12) (n := 12) hg uX0 (hg _ ins_0)
  obtain ⟨c1, iS1, hKn1⟩ := u_known (C := RX2) (T := TX2) (N := 5) (n := 5) hg uX2 (hg _ ins_2)
  obtain ⟨c2, iS2, hKn2⟩ := u_known (C := RX3) (T := TX3) (N := 9) (n := 9) hg uX3 (hg _ ins_3)
  obtain ⟨c3, iS3, hKn3⟩ := u_known (C := RX4) (T := TX4) (N := 4) (n := 4) hg uX4 (hg _ ins_4)
  obtain ⟨c4, iS4, hKn4⟩ := u_known (C := RX5) (T := TX5) (N := 1) (n := 1) hg uX5 (hg _ ins_5)
  obtain ⟨c5, iS5, hKn5⟩ := u_known (C := RX6) (T := TX6) (N := 10) (n := 10) hg uX6 (hg _ ins_6)
  obtain ⟨c6, iS6, hKn6⟩ := u_known (C := RX7) (T := TX7) (N := 27) (n := 27) hg uX7 (hg _ ins_7)
  obtain ⟨dC, dI, hKc⟩ : ∃ (dC : Nat → ClassId) (dI : Nat → Nat → Nat), ∀ (k : Nat) (q : vw_C), cls_[k]? = some q → u_Kn s q.1 q.2.1 q.2.2 (dC k) (dI k) := by
    refine ⟨fun k => if k = 0 then c0 else if k = 1 then c1 else if k = 2 then c2 else if k = 3 then c3 else if k = 4 then c4 else if k = 5 then c5 else c6, fun k => if k = 0 then iS0 else if k = 1 then iS1 else if k = 2 then iS2 else if k = 3 then iS3 else if k = 4 then iS4 else if k = 5 then iS5 else iS6, ?_⟩
    intro k q hq
    match k, hq with
    | 0, hq => cases hq; exact hKn0
    | 1, hq => cases hq; exact hKn1
    | 2, hq => cases hq; exact hKn2
    | 3, hq => cases hq; exact hKn3
    | 4, hq => cases hq; exact hKn4
    | 5, hq => cases hq; exact hKn5
    | 6, hq => cases hq; exact hKn6
    | k + 7, hq => simp [cls_] at hq
  obtain ⟨a0, hA0⟩ := arr_of (hg _ aw_i) (fun C h => by cases h)
  obtain ⟨a1, hA1⟩ := arr_of (hg _ aw_l) (fun C h => by cases h)
  obtain ⟨a2, hA2⟩ := arr_of (hg _ aw_z) (fun C h => by cases h)
  have hao : va_AO "PageMender$Page" s := va_AO.of (hts (.arrayOver (.object "PageMender$Page")) (List.mem_append_right _ (List.mem_append_left _ (List.mem_of_getElem? (i := 155) rfl))))
  obtain ⟨comp, a3, k3, g1, g2, g3, g4, g5⟩ := Cond.arrayOver_spec hao
  have hA3 : ArrOfT s a3 (.object "PageMender$Page") ∧ va_RA s a3 (.object "PageMender$Page") := ⟨fun n z => ⟨fun k h => (by cases h), k3, g3, comp, g4⟩, k3, comp, g3, g4, g1, g5⟩
  have hnl : ∀ w ∈ nls, va_Nw w s := by
    intro w hw
    simp only [nls, List.mem_cons, List.not_mem_nil, or_false] at hw
    rcases hw with rfl | rfl | rfl | rfl | rfl | rfl
    · exact va_Nw.of rfl (hts _ (List.mem_append_right _ (List.mem_append_left _ (List.mem_of_getElem? (i := 23) rfl))))
    · exact va_Nw.of rfl (hts _ (List.mem_append_right _ (List.mem_append_left _ (List.mem_of_getElem? (i := 157) rfl))))
    · exact va_Nw.of rfl (hts _ (List.mem_append_right _ (List.mem_append_left _ (List.mem_of_getElem? (i := 183) rfl))))
    · exact va_Nw.of rfl (hts _ (List.mem_append_right _ (List.mem_append_left _ (List.mem_of_getElem? (i := 61) rfl))))
    · exact va_Nw.of rfl (hts _ (List.mem_append_right _ (List.mem_append_left _ (List.mem_of_getElem? (i := 124) rfl))))
    · exact va_Nw.of rfl (hts _ (List.mem_append_right _ (List.mem_append_left _ (List.mem_of_getElem? (i := 162) rfl))))
  have hfl := flat_of_before _ hgv
  obtain ⟨pol, hpe, hpT⟩ := va_Tof (args := #[Value.ref b]) (s := s) (tm := .static "PageMender$Field" "POLYNOMIALS" "[I") (ty := .int) (N := 11) (f := fun j => .int (pols j)) (A := fun q => s.heap.size ≤ q) (by decide) (hfl _ (by decide +kernel)) (va_eqt (z := 11) (hfl _ (by decide +kernel))) (fun j hj => by
    match j, hj with
    | 0, _ => exact va_eqt (t := .elem (.static "PageMender$Field" "POLYNOMIALS" "[I") (.int 0)) (z := 11) (hfl _ (by decide +kernel))
    | 1, _ => exact va_eqt (t := .elem (.static "PageMender$Field" "POLYNOMIALS" "[I") (.int 1)) (z := 19) (hfl _ (by decide +kernel))
    | 2, _ => exact va_eqt (t := .elem (.static "PageMender$Field" "POLYNOMIALS" "[I") (.int 2)) (z := 37) (hfl _ (by decide +kernel))
    | 3, _ => exact va_eqt (t := .elem (.static "PageMender$Field" "POLYNOMIALS" "[I") (.int 3)) (z := 67) (hfl _ (by decide +kernel))
    | 4, _ => exact va_eqt (t := .elem (.static "PageMender$Field" "POLYNOMIALS" "[I") (.int 4)) (z := 137) (hfl _ (by decide +kernel))
    | 5, _ => exact va_eqt (t := .elem (.static "PageMender$Field" "POLYNOMIALS" "[I") (.int 5)) (z := 285) (hfl _ (by decide +kernel))
    | 6, _ => exact va_eqt (t := .elem (.static "PageMender$Field" "POLYNOMIALS" "[I") (.int 6)) (z := 529) (hfl _ (by decide +kernel))
    | 7, _ => exact va_eqt (t := .elem (.static "PageMender$Field" "POLYNOMIALS" "[I") (.int 7)) (z := 1033) (hfl _ (by decide +kernel))
    | 8, _ => exact va_eqt (t := .elem (.static "PageMender$Field" "POLYNOMIALS" "[I") (.int 8)) (z := 2053) (hfl _ (by decide +kernel))
    | 9, _ => exact va_eqt (t := .elem (.static "PageMender$Field" "POLYNOMIALS" "[I") (.int 9)) (z := 4179) (hfl _ (by decide +kernel))
    | 10, _ => exact va_eqt (t := .elem (.static "PageMender$Field" "POLYNOMIALS" "[I") (.int 10)) (z := 8219) (hfl _ (by decide +kernel))
    | j + 11, h => exact absurd h (by omega)) hnA
  have hpZ := va_Zof (C := "PageMender$Field") (n := "POLYNOMIALS") (d := "[I") (v := .ref pol) (A := fun q => s.heap.size ≤ q) (hts (.laysStatic "PageMender$Field" "POLYNOMIALS" "[I") (List.mem_append_right _ (List.mem_append_right _ (List.mem_append_left _ (List.mem_of_getElem? (i := 8) rfl))))) (hg _ ini_2) hpe hnA
  obtain ⟨scr, x1, x2, x3, x4, x5⟩ := hX
  have hsT : va_T .int b L (fun j => .int (xs j)) (fun q => s.heap.size ≤ q) s s.heap := ⟨scr, x1, x2, x3, by omega, by rw [x4] <;> rfl, x5, hnA b hbl⟩
  let X : Ev := (l, (dC, dI), (fun t => if t = 0 then a0 else if t = 1 then a1 else if t = 2 then a2 else a3), s.heap.size, b, pol, L, xs)
  obtain ⟨M', hGX, hm1, hm2⟩ := hG X hL
  have hK : va_K (ev_D X) cls_ (tys_ X) s := ⟨hKc, fun k q hk => by
    match k, hk with
    | 0, hk => cases hk; exact hA0
    | 1, hk => cases hk; exact hA1
    | 2, hk => cases hk; exact hA2
    | 3, hk => cases hk; exact hA3
    | k + 4, hk => simp at hk⟩
  have hl := lv_entry ([.ref b]) (n := 4) (Nat.le_of_ble_eq_true rfl)
  rw [lg_entry_eq]
  have h := hGX.2 (Le.rf []) p e room_1 s m #[Value.ref b] below meth c s.heap [] _ ⟨hx, hb, hml, hr, hlocks, fun h => absurd h (by decide), hown, hg, by decide, by decide, hK, ⟨hsT, hpT, hpZ, hao, hnl⟩, rfl⟩ ⟨by show M'.length - 0 ≤ 600000; omega, by show sl M' - 0 ≤ 7302250; omega⟩ ⟨fun k q h => by simp [ws_] at h, va_S.rf, hl⟩
  intro T hT Y
  obtain ⟨t, s1, o, q1, q2, q3, LL, q4, q5⟩ := h T hT Y
  refine ⟨t, s1, o, q1, q2, q3.1.1, frame_of q4 (fun q hq => q5 q hq) (by simpa using hm1) (by show sl M' - 0 ≤ 7302250; omega)⟩
