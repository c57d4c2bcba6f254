theorem W.sz {p : Program} {l : Launch} {e : Env} {R : Room} {s : State} {m : MethodId} {args : Array Value} {below : List Frame} {meth : Method} {c : Code} {H : Heap} {locs : List Loc} {cells slots : Nat} {Q : State → Prop} {g : JFrame} (k : H.size ≤ s.heap.size + cells → W p l e R s m args below meth c H locs cells slots Q g) : W p l e R s m args below meth c H locs cells slots Q g :=
  fun T hT X => k (by rw [← hT]; exact X.same.2.2.1) T hT X
theorem hp_ge {X : Ev} {M : Hp} {H H0 : Heap} {locs : List Loc} (hP : va_P (ev_D X) cls_ (ws_ X M) H) (hS : va_S (evA X) H0 H locs) (h0 : ev_o X ≤ H0.size) : ev_o X + M.length ≤ H.size := by
  cases hM : M.length with
  | zero => exact Nat.le_trans h0 hS.1
  | succ n =>
    have hn : n < M.length := by omega
    have := (hP n _ (ws_get (X := X) (List.getElem?_eq_getElem hn))).lt
    have h3 : ev_o X + n < H.size := this
    omega
theorem gt_good {w : Cond} (h : w ∈ gt) : (w.onTables && w.keeps) = true ∨ ∃ ty, w = .arrayClass ty := good_of_word (List.mem_filter.mp h).2
theorem gt_in {ws : List Cond} (h : ∀ w ∈ ws, w ∈ gt) : GoodIn gt ws := fun w hw => ⟨h w hw, gt_good (h w hw)⟩
theorem Ro.at {X : Ev} {s U : State} {H : Heap} {locs : List Loc} (h : Ro X s) (hS : va_S (evA X) s.heap H locs) (hU : U.heap = H) (hA : s.vm.Alike U.vm) (hN : (∀ w ∈ nls, va_Nw w s) → ∀ w ∈ nls, va_Nw w U) : Ro X U := by
  obtain ⟨h1, h2, h3, h4, h5⟩ := h
  unfold Ro
  rw [hU]
  exact ⟨(h1.moved hA).kept hS.2.1, (h2.moved hA).kept hS.2.1, (h3.moved hA).kept hS.2.1, h4.moved hA, hN h5⟩
theorem Pk.blind (X : Ev) (M : Hp) (as : List Value) : FrameBlind (va_Pc as (Pk X M)) := by
  intro a U g mk q
  obtain ⟨q0, qP, qK, qz, qR⟩ := q
  exact ⟨q0, qP, va_K.moved (u := U) (U := U.calling g mk a) (Vm.Alike.refl U.vm) qK, qz, Ro.at (s := U) (H := U.heap) (locs := []) qR va_S.rf rfl (Vm.Alike.refl U.vm) (nls_same rfl)⟩
theorem va_callk {X : Ev} {r : Option Value} {M1 : Hp} {p : Program} {l : Launch} {e : Env} {R : Room} {s : State} {m : MethodId} {args : Array Value} {below : List Frame} {meth : Method} {c : Code} {H : Heap} {locs : List Loc} {cells slots : Nat} {Q : State → Prop} {pc : Nat} {ls : Array Slot} {rest st0 : List Value} {a : Array Value} {H0 : Heap} {mc ms : Nat}
    (hr : va_Run p l e R s m args below meth c H locs cells slots mc ms (F0 m pc ls st0) rest (Qk X r M1 a) (evA X)) (hS : va_S (evA X) H0 H locs)
    (kk : ∀ (H1 : Heap) (locs1 : List Loc), va_P (ev_D X) cls_ (ws_ X M1) H1 → va_S (evA X) H0 H1 locs1 → W p l e R s m args below meth c H1 locs1 (cells + mc) (slots + ms) Q (F0 m (pc + 3) ls ((r.map (tv X)).toList ++ rest))) : W p l e R s m args below meth c H locs cells slots Q (F0 m pc ls st0) := by
  intro T hT Y
  obtain ⟨v, st₀, t, T', L, h0, Y', hL, e1, e2, ⟨⟨hv, hp⟩, hz, hk⟩, st⟩ := hr T hT Y
  cases hv
  rw [h0] at hz hk
  obtain ⟨t2, a1, b1⟩ := kk T'.heap (locs ++ L) (by rw [e1]; exact hp)
    ⟨Nat.le_trans hS.1 (by rw [e1]; exact hz), fun q h1 h2 => by rw [e1, hk q (Nat.lt_of_lt_of_le h1 hS.1) h2]; exact hS.2.1 q h1 h2, fun q hq => by
      rcases List.mem_append.mp hq with h | h
      · exact hS.2.2 q h
      · exact hL q h⟩ T' rfl Y'
  exact ⟨t2, st t2 a1, b1⟩
section HEAPROWS
variable {X : Ev} {d : Nat} {J : Jt} {M0 M M' : Hp} {pc : Nat} {ls : List (Option Value)} {st : List Value} {v : Option Value}
theorem x_getf {i ci kf a : Nat} {fs : List Value} {w : Value} {C : String} {T : u_T} {N : Nat} (hd : decode J.2.1 pc = .ok (.getfield i, 3)) (hc : cls_[ci]? = some (C, T, N)) (hu : ∀ w ∈ u_ws C T N, w ∈ gt) (hk : kf < N) (hlk : Cond.fieldLink J.1.cls i (T kf).1 (T kf).2.1 (T kf).2.2.1 ∈ gt)
    (hM : M[a]? = some (.inr (ci, fs))) (hv : fs[kf]? = some w) (k : G X d J M0 (pc + 3) ls (w :: st) M v M') : G X d J M0 pc ls (.ref a :: st) M v M' :=
  G.by1 k fun p e R s m args below meth c H locs lsM cells slots Q ha hb kk => va_get (D := ev_D X) ha.1 ha.2.1 ha.2.2.2.2.2.2.2.1 hu ha.2.2.2.2.2.2.1 ha.2.2.2.2.2.2.2.2.2.2.1 hb.1 a (ws_get hM) hc kf hk (ha.2.2.2.2.2.2.2.1 _ hlk) (fun _ h => h) (v := tv X w) (by rw [List.getElem?_map, hv]; rfl) hd (kk lsM hb.2.2)
theorem x_putf {i ci kf a : Nat} {fs : List Value} {w : Value} {C : String} {T : u_T} {N : Nat} {ty0 : Nat → FieldType} {ty : FieldType} {M1 : Hp} (hd : decode J.2.1 pc = .ok (.putfield i, 3)) (hc : cls_[ci]? = some (C, T, N)) (hu : ∀ w ∈ u_ws C T N, w ∈ gt) (hty : ∀ k, k < N → parseFieldDescriptor (T k).2.2.1 = some (ty0 k)) (hnm : ∀ a, a < N → ∀ b, b < N → a ≠ b → (T a).2.1 ≠ (T b).2.1) (hk : kf < N) (hlk : Cond.fieldLink J.1.cls i (T kf).1 (T kf).2.1 (T kf).2.2.1 ∈ gt)
    (hfin : (T kf).2.2.2 = false) (hdt : parseFieldDescriptor (T kf).2.2.1 = some ty) (hn : narrow ty (tv X w) = tv X w) (hfit : fits ty (tv X w) = true) (hM : M[a]? = some (.inr (ci, fs))) (hl : kf < fs.length) (hM1 : M.set a (.inr (ci, fs.set kf w)) = M1) (k : G X d J M0 (pc + 3) ls st M1 v M') : G X d J M0 pc ls (w :: .ref a :: st) M v M' := by
  subst hM1
  exact G.by2 k (by simp) (sl_set M a _ _ hM (by simp [csz])) fun p e R s m args below meth c H locs lsM cells slots Q ha hb kk => va_put (D := ev_D X) ha.1 ha.2.1 ha.2.2.2.2.2.2.2.1 hu ty0 hty hnm ha.2.2.2.2.2.2.1 ha.2.2.2.2.2.2.2.2.2.2.1 hb.1 (ws_D X M) hb.2.1 a (ws_get hM) hc kf hk (ha.2.2.2.2.2.2.2.1 _ hlk) (fun _ h => h) hfin hdt hn hfit (by simpa using hl) hd (fun H1 locs1 hP _ hS => kk H1 locs1 (by rw [← ws_set]; simpa [te, List.map_set] using hP) hS)
theorem x_putF {i ci kf a : Nat} {fs : List Value} {w : Value} {C : String} {T : u_T} {N : Nat} {ty0 : Nat → FieldType} {ty : FieldType} {M1 : Hp} (hd : decode J.2.1 pc = .ok (.putfield i, 3)) (hc : cls_[ci]? = some (C, T, N)) (hu : ∀ w ∈ u_ws C T N, w ∈ gt) (hty : ∀ k, k < N → parseFieldDescriptor (T k).2.2.1 = some (ty0 k)) (hnm : ∀ a, a < N → ∀ b, b < N → a ≠ b → (T a).2.1 ≠ (T b).2.1) (hk : kf < N) (hlk : Cond.fieldLink J.1.cls i (T kf).1 (T kf).2.1 (T kf).2.2.1 ∈ gt)
    (hfin : (T kf).2.2.2 = true) (hin : J.1.name = "<init>") (hdc : (T kf).1 = J.1.cls) (hdt : parseFieldDescriptor (T kf).2.2.1 = some ty) (hn : narrow ty (tv X w) = tv X w) (hfit : fits ty (tv X w) = true) (hM : M[a]? = some (.inr (ci, fs))) (hl : kf < fs.length) (hM1 : M.set a (.inr (ci, fs.set kf w)) = M1) (k : G X d J M0 (pc + 3) ls st M1 v M') : G X d J M0 pc ls (w :: .ref a :: st) M v M' := by
  subst hM1
  exact G.by2 k (by simp) (sl_set M a _ _ hM (by simp [csz])) fun p e R s m args below meth c H locs lsM cells slots Q ha hb kk => va_putF (D := ev_D X) ha.1 ha.2.1 ha.2.2.2.2.2.2.2.1 hu ty0 hty hnm ha.2.2.2.2.2.2.1 ha.2.2.2.2.2.2.2.2.2.2.1 hb.1 (ws_D X M) hb.2.1 a (ws_get hM) hc kf hk (ha.2.2.2.2.2.2.2.1 _ hlk) (fun _ h => h) hfin (ha.2.2.2.2.2.1 hin) hdc hdt hn hfit (by simpa using hl) hd (fun H1 locs1 hP _ hS => kk H1 locs1 (by rw [← ws_set]; simpa [te, List.map_set] using hP) hS)
theorem x_gets {i : Nat} (hd : decode J.2.1 pc = .ok (.getstatic i, 3)) (hlk : Cond.fieldLink J.1.cls i "PageMender$Field" "POLYNOMIALS" "[I" ∈ gt) (k : G X d J M0 (pc + 3) ls (.retAddr 1 :: st) M v M') : G X d J M0 pc ls st M v M' :=
  G.by1 k fun p e R s m args below meth c H locs lsM cells slots Q ha hb kk => va_gets (ref := "PageMender$Field") ha.1 ha.2.1 ha.2.2.2.2.2.2.2.2.2.2.2.1.2.2.1 hb.2.1 ha.2.2.2.2.2.2.1 (ha.2.2.2.2.2.2.2.1 _ hlk) (fun _ h => h) hd (kk lsM hb.2.2)
theorem x_pald {i : Int32} {j : Nat} (hd : decode J.2.1 pc = .ok (.iaload, 1)) (hi : i = nI j) (hj : j < 11) (k : G X d J M0 (pc + 1) ls (.int (pols j) :: st) M v M') : G X d J M0 pc ls (.int i :: .retAddr 1 :: st) M v M' := by
  subst hi
  exact G.by1 k fun p e R s m args below meth c H locs lsM cells slots Q ha hb kk => va_ti ha.1 ha.2.1 ha.2.2.2.2.2.2.2.2.2.2.2.1.2.1 hb.2.1 (vp_in_nI hj (by decide)) (by rw [nI_clamp (by omega)]; rfl) hd (kk lsM hb.2.2)
theorem x_sald {i : Int32} {j : Nat} (hd : decode J.2.1 pc = .ok (.iaload, 1)) (hi : i = nI j) (hj : j < ev_L X) (hL : ev_L X < 2 ^ 31) (k : G X d J M0 (pc + 1) ls (.int (ev_x X j) :: st) M v M') : G X d J M0 pc ls (.int i :: .retAddr 0 :: st) M v M' := by
  subst hi
  exact G.by1 k fun p e R s m args below meth c H locs lsM cells slots Q ha hb kk => va_ti ha.1 ha.2.1 ha.2.2.2.2.2.2.2.2.2.2.2.1.1 hb.2.1 (vp_in_nI hj hL) (by rw [nI_clamp (by omega)]; rfl) hd (kk lsM hb.2.2)
theorem x_slen (hd : decode J.2.1 pc = .ok (.arraylength, 1)) (k : G X d J M0 (pc + 1) ls (.int (nI (ev_L X)) :: st) M v M') : G X d J M0 pc ls (.retAddr 0 :: st) M v M' :=
  G.by1 k fun p e R s m args below meth c H locs lsM cells slots Q ha hb kk => va_tlen ha.1 ha.2.1 ha.2.2.2.2.2.2.2.2.2.2.2.1.1 hb.2.1 rfl hd (kk lsM hb.2.2)
theorem x_alen {a t n : Nat} {x : vp_A} (hd : decode J.2.1 pc = .ok (.arraylength, 1)) (ht : t < 4) (hM : M[a]? = some (.inl (t, x))) (hn : x.1 = n) (k : G X d J M0 (pc + 1) ls (.int (nI n) :: st) M v M') : G X d J M0 pc ls (.ref a :: st) M v M' :=
  G.by1 k fun p e R s m args below meth c H locs lsM cells slots Q ha hb kk => by
    have h : ∃ ty, (tys_ X)[t]? = some (ev_k X t, ty) := by
      match t, ht with
      | 0, _ => exact ⟨_, rfl⟩
      | 1, _ => exact ⟨_, rfl⟩
      | 2, _ => exact ⟨_, rfl⟩
      | 3, _ => exact ⟨_, rfl⟩
    obtain ⟨ty, h⟩ := h
    exact va_alen (D := ev_D X) ha.1 ha.2.1 ha.2.2.2.2.2.2.2.2.2.2.1 hb.1 a t (ws_get hM) h (by rw [ta_1, hn]; rfl) hd (kk lsM hb.2.2)
theorem x_ild {a j n : Nat} {i : Int32} {f : Nat → Int32} (hd : decode J.2.1 pc = .ok (.iaload, 1)) (hM : M[a]? = some (.inl (0, n, .inl f))) (hi : i = nI j) (hj : j < n) (hn : n < 2 ^ 31) (k : G X d J M0 (pc + 1) ls (.int (f j) :: st) M v M') : G X d J M0 pc ls (.int i :: .ref a :: st) M v M' := by
  subst hi
  exact G.by1 k fun p e R s m args below meth c H locs lsM cells slots Q ha hb kk => va_iald (D := ev_D X) ha.1 ha.2.1 ha.2.2.2.2.2.2.2.2.2.2.1 hb.1 a 0 (ws_get hM) rfl (vp_in_nI hj hn) hd (by rw [nI_clamp (by omega)]; exact kk lsM hb.2.2)
theorem x_lld {a j n : Nat} {i : Int32} {f : Nat → Int64} (hd : decode J.2.1 pc = .ok (.laload, 1)) (hM : M[a]? = some (.inl (1, n, .inr (.inl f)))) (hi : i = nI j) (hj : j < n) (hn : n < 2 ^ 31) (k : G X d J M0 (pc + 1) ls (.long (f j) :: st) M v M') : G X d J M0 pc ls (.int i :: .ref a :: st) M v M' := by
  subst hi
  exact G.by1 k fun p e R s m args below meth c H locs lsM cells slots Q ha hb kk => va_lald (D := ev_D X) ha.1 ha.2.1 ha.2.2.2.2.2.2.2.2.2.2.1 hb.1 a 1 (ws_get hM) rfl (vp_in_nI hj hn) hd (by rw [nI_clamp (by omega)]; exact kk lsM hb.2.2)
theorem x_zld {a j n : Nat} {i : Int32} {f : Nat → Int32} (hd : decode J.2.1 pc = .ok (.baload, 1)) (hM : M[a]? = some (.inl (2, n, .inl f))) (hi : i = nI j) (hj : j < n) (hn : n < 2 ^ 31) (k : G X d J M0 (pc + 1) ls (.int (f j) :: st) M v M') : G X d J M0 pc ls (.int i :: .ref a :: st) M v M' := by
  subst hi
  exact G.by1 k fun p e R s m args below meth c H locs lsM cells slots Q ha hb kk => va_zald (D := ev_D X) ha.1 ha.2.1 ha.2.2.2.2.2.2.2.2.2.2.1 hb.1 a 2 (ws_get hM) rfl (vp_in_nI hj hn) hd (by rw [nI_clamp (by omega)]; exact kk lsM hb.2.2)
theorem x_ist {a j n : Nat} {i : Int32} {x : Int32} {f : Nat → Int32} {M1 : Hp} (hd : decode J.2.1 pc = .ok (.iastore, 1)) (hM : M[a]? = some (.inl (0, n, .inl f))) (hi : i = nI j) (hj : j < n) (hn : n < 2 ^ 31) (hM1 : M.set a (.inl (0, n, .inl (upd f j x))) = M1) (k : G X d J M0 (pc + 1) ls st M1 v M') : G X d J M0 pc ls (.int x :: .int i :: .ref a :: st) M v M' := by
  subst hi
  subst hM1
  exact G.by2 k (by simp) (sl_set M a _ _ hM (by simp [csz])) fun p e R s m args below meth c H locs lsM cells slots Q ha hb kk => va_iast (D := ev_D X) ha.1 ha.2.1 ha.2.2.2.2.2.2.2.2.2.2.1 hb.1 (ws_D X M) hb.2.1 a 0 (ws_get hM) rfl (vp_in_nI hj hn) hd (fun H1 locs1 hP _ hS => kk H1 locs1 (by rw [nI_clamp (by omega)] at hP; rw [← ws_set]; exact hP) hS)
theorem x_lst {a j n : Nat} {i : Int32} {x : Int64} {f : Nat → Int64} {M1 : Hp} (hd : decode J.2.1 pc = .ok (.lastore, 1)) (hM : M[a]? = some (.inl (1, n, .inr (.inl f)))) (hi : i = nI j) (hj : j < n) (hn : n < 2 ^ 31) (hM1 : M.set a (.inl (1, n, .inr (.inl (vp_updL f j x)))) = M1) (k : G X d J M0 (pc + 1) ls st M1 v M') : G X d J M0 pc ls (.long x :: .int i :: .ref a :: st) M v M' := by
  subst hi
  subst hM1
  exact G.by2 k (by simp) (sl_set M a _ _ hM (by simp [csz])) fun p e R s m args below meth c H locs lsM cells slots Q ha hb kk => va_last (D := ev_D X) ha.1 ha.2.1 ha.2.2.2.2.2.2.2.2.2.2.1 hb.1 (ws_D X M) hb.2.1 a 1 (ws_get hM) rfl (vp_in_nI hj hn) hd (fun H1 locs1 hP _ hS => kk H1 locs1 (by rw [nI_clamp (by omega)] at hP; rw [← ws_set]; exact hP) hS)
theorem x_zst {a j n : Nat} {i : Int32} {x : Int32} {f : Nat → Int32} {M1 : Hp} (hd : decode J.2.1 pc = .ok (.bastore, 1)) (hM : M[a]? = some (.inl (2, n, .inl f))) (hi : i = nI j) (hj : j < n) (hn : n < 2 ^ 31) (hM1 : M.set a (.inl (2, n, .inl (upd f j (vp_nar .boolean x)))) = M1) (k : G X d J M0 (pc + 1) ls st M1 v M') : G X d J M0 pc ls (.int x :: .int i :: .ref a :: st) M v M' := by
  subst hi
  subst hM1
  exact G.by2 k (by simp) (sl_set M a _ _ hM (by simp [csz])) fun p e R s m args below meth c H locs lsM cells slots Q ha hb kk => va_zast (D := ev_D X) ha.1 ha.2.1 ha.2.2.2.2.2.2.2.2.2.2.1 hb.1 (ws_D X M) hb.2.1 a 2 (ws_get hM) rfl (vp_in_nI hj hn) hd (fun H1 locs1 hP _ hS => kk H1 locs1 (by rw [nI_clamp (by omega)] at hP; rw [← ws_set]; exact hP) hS)
theorem x_ald {a j n r : Nat} {i : Int32} {f : Nat → Option Nat} (hd : decode J.2.1 pc = .ok (.aaload, 1)) (hM : M[a]? = some (.inl (3, n, .inr (.inr (.inr (.inr f)))))) (hi : i = nI j) (hj : j < n) (hn : n < 2 ^ 31) (hr : f j = some r) (k : G X d J M0 (pc + 1) ls (.ref r :: st) M v M') : G X d J M0 pc ls (.int i :: .ref a :: st) M v M' := by
  subst hi
  exact G.by1 k fun p e R s m args below meth c H locs lsM cells slots Q ha hb kk => va_aldq (D := ev_D X) ha.1 ha.2.1 ha.2.2.2.2.2.2.2.2.2.2.1 hb.1 a 3 (ws_get hM) rfl (vp_in_nI hj hn) hd (by
    have h2 := kk lsM hb.2.2
    rw [nI_clamp (by omega), hr]
    exact h2)
theorem x_ast {a j n r : Nat} {i : Int32} {f : Nat → Option Nat} {fs : List Value} {M1 : Hp} (hd : decode J.2.1 pc = .ok (.aastore, 1)) (hM : M[a]? = some (.inl (3, n, .inr (.inr (.inr (.inr f)))))) (hr : M[r]? = some (.inr (3, fs))) (hi : i = nI j) (hj : j < n) (hn : n < 2 ^ 31) (hM1 : M.set a (.inl (3, n, .inr (.inr (.inr (.inr (va_up f j (some r))))))) = M1) (k : G X d J M0 (pc + 1) ls st M1 v M') : G X d J M0 pc ls (.ref r :: .int i :: .ref a :: st) M v M' := by
  subst hi
  subst hM1
  exact G.by2 k (by simp) (sl_set M a _ _ hM (by simp [csz])) fun p e R s m args below meth c H locs lsM cells slots Q ha hb kk => va_astq (D := ev_D X) ha.1 ha.2.1 ha.2.2.2.2.2.2.2.2.2.2.1 hb.1 (ws_D X M) hb.2.1 a 3 r 3 (r := (RX4, TX4, 4)) (ws_get hM) rfl (ws_get hr) rfl (vp_in_nI hj hn) hd (fun H1 locs1 hP _ hS => kk H1 locs1 (by
      rw [nI_clamp (by omega)] at hP
      rw [← ws_set]
      have e1 : (fun q => (va_up f j (some r) q).map (fun i => ev_o X + i)) = va_up (fun q => (f q).map (fun i => ev_o X + i)) j (some (ev_o X + r)) := by
        funext q
        by_cases h : q = j
        · subst h; simp [va_up]
        · simp [va_up, h]
      simp only [te, ta, e1]
      exact hP) hS)
theorem G.by3 {cel : Cel} {pc' : Nat} {st' : List Value} (k : G X d J M0 pc' ls st' (M ++ [cel]) v M')
    (h : ∀ (p : Program) (e : Env) (R : Room) (s : State) (m : MethodId) (args : Array Value) (below : List Frame) (meth : Method) (c : Code) (H : Heap) (locs : List Loc) (lsM : Array Slot) (cells slots : Nat) (Q : State → Prop), Ca X d J M0 p R s m args meth c → Cb X J s M ls H locs lsM → H.size = ev_o X + M.length → cells + 1 ≤ R.cells → slots + csz cel ≤ R.slots →
      (∀ (H1 : Heap), va_P (ev_D X) cls_ (ws_ X M ++ [(H.size, te X cel)]) H1 → va_S (evA X) s.heap H1 locs → W p (ev_l X) e R s m args below meth c H1 locs (cells + 1) (slots + csz cel) Q (F0 m pc' lsM (st'.map (tv X)))) → W p (ev_l X) e R s m args below meth c H locs cells slots Q (F0 m pc lsM (st.map (tv X)))) : G X d J M0 pc ls st M v M' := by
  have hl1 : M.length + 1 ≤ M'.length := by have := k.1.1; simpa using this
  have hs1 : sl M + csz cel ≤ sl M' := by have := k.1.2; rw [sl_push] at this; exact this
  refine ⟨⟨by omega, by omega⟩, fun hL p e R s m args below meth c H locs lsM ha hr hb => W.sz fun hz => ?_⟩
  have h0 : ev_o X ≤ s.heap.size := by rw [ha.2.2.2.2.2.2.2.2.2.2.2.2]; omega
  have hge := hp_ge hb.1 hb.2.1 h0
  have hz2 : H.size = ev_o X + M.length := by
    have h5 := ha.2.2.2.2.2.2.2.2.2.2.2.2
    have h6 := hL.1
    omega
  have h7 := hL.1
  have h8 := hL.2
  have hr1 := hr.1
  have hr2 := hr.2
  refine h p e R s m args below meth c H locs lsM _ _ _ ha hb hz2 (by omega) (by omega) (fun H1 hP hS => ?_)
  have h9 := k.2 ⟨by simp; omega, by rw [sl_push]; omega⟩ p e R s m args below meth c H1 locs lsM ha hr ⟨by rw [← ws_push, ← hz2]; exact hP, hS, hb.2.2⟩
  rw [sl_push, List.length_append, List.length_singleton, show M.length + 1 - M0.length = M.length - M0.length + 1 by omega, show sl M + csz cel - sl M0 = sl M - sl M0 + csz cel by omega] at h9
  exact h9
theorem x_new {i ci : Nat} {C : String} {T : u_T} {N : Nat} {ty : Nat → FieldType} {fs : List Value} (hd : decode J.2.1 pc = .ok (.new i, 3)) (hc : cls_[ci]? = some (C, T, N)) (hu : ∀ w ∈ u_ws C T N, w ∈ gt) (hty : ∀ k, k < N → parseFieldDescriptor (T k).2.2.1 = some (ty k)) (hcl : Cond.classLink J.1.cls i C ∈ gt) (hinst : Cond.instantiable C N ∈ gt) (hini : Cond.initialized C ∈ gt)
    (hfs : ∀ j, j < N → defaultValue (ty j) = vp_V fs j) (hlen : fs.length = N) (htv : fs.map (tv X) = fs) (k : G X d J M0 (pc + 3) ls (.ref M.length :: st) (M ++ [.inr (ci, fs)]) v M') : G X d J M0 pc ls st M v M' :=
  G.by3 k fun p e R s m args below meth c H locs lsM cells slots Q ha hb hz h1 h2 kk => by
    have hK := ha.2.2.2.2.2.2.2.2.2.2.1
    have hKn := hK.1 ci _ hc
    have hts := ha.2.2.2.2.2.2.2.1
    have h2' : slots + N ≤ R.slots := by simpa [csz, hlen] using h2
    refine W.newcK ha.1 ha.2.1 ha.2.2.2.2.2.2.1 (hts _ hcl) (hts _ hinst) (hts _ hini) rfl hd h1 h2' hKn.2.1 rfl fun H1 kC hkC e1 z1 o1 => ?_
    have hk : ∀ (k : Nat) (x : Nat × va_E), (ws_ X M)[k]? = some x → H1[x.1]? = H[x.1]? := fun k x hx => o1 x.1 ((hb.1 k x hx).lt)
    have h3 := kk H1 ((hb.1.kept hk).app (fun k x hx => by
      have hz0 : k < 1 := (List.getElem?_eq_some_iff.mp hx).1
      rw [show k = 0 by omega] at hx
      cases hx
      refine ⟨_, hc, ?_⟩
      simp only [te, htv]
      exact (u_born ty hts hu hKn hkC e1 hty).to hfs)) ⟨Nat.le_trans hb.2.1.1 (by omega), fun x g1 g2 => (o1 x (Nat.lt_of_lt_of_le g1 hb.2.1.1)).trans (hb.2.1.2.1 x g1 g2), hb.2.1.2.2⟩
    simp only [csz, hlen] at h3
    rw [hz]
    exact h3
theorem ra_id {U : State} {c c' : ClassId} {ty : FieldType} (h : va_RA U c ty) (h2 : U.vm.findClass ("[" ++ ty.toString) = some c') : c' = c := by
  cases ty with
  | object C =>
    obtain ⟨kA, comp, g1, g2, g3, g4⟩ := h
    rw [g4] at h2
    exact (Option.some.inj h2).symm
  | _ => exact (Option.some.inj (Eq.trans (Eq.symm h) h2)).symm
theorem x_newa {t N : Nat} {n : Int32} {at_ : ArrayType} {ty : FieldType} {a0 : vp_A} (hd : decode J.2.1 pc = .ok (.newarray at_, 2)) (hty : newarray.typeOf at_ = ty) (ht : (tys_ X)[t]? = some (ev_k X t, ty)) (hw : Cond.arrayClass ty ∈ gt) (ha0 : ∀ cA : ClassId, vp_cell cA a0 = arrV cA N (fun _ => defaultValue ty)) (hta : ta X a0 = a0) (hN1 : a0.1 = N) (hn : n = nI N) (hN : N < 2 ^ 20) (hby : componentBytes ty ≤ 8)
    (k : G X d J M0 (pc + 2) ls (.ref M.length :: st) (M ++ [.inl (t, a0)]) v M') : G X d J M0 pc ls (.int n :: st) M v M' :=
  G.by3 k fun p e R s m args below meth c H locs lsM cells slots Q ha hb hz h1 h2 kk => by
    subst hty
    subst hn
    have hK := ha.2.2.2.2.2.2.2.2.2.2.1
    have hts := ha.2.2.2.2.2.2.2.1
    have h2' : slots + N ≤ R.slots := by simpa [csz, hN1] using h2
    have hb8 : N * componentBytes (newarray.typeOf at_) ≤ 536870912 := by
      have := Nat.mul_le_mul (Nat.le_of_lt hN) hby
      omega
    refine va_newaK (N := N) ha.1 ha.2.1 (hts _ hw) rfl hd rfl (nI_pos (by omega)) (nI_clamp (by omega)) hb8 h1 h2' rfl fun H1 cA e1 z1 o1 hAr hNm => ?_
    have hcA : cA = ev_k X t := ra_id (hK.2 t _ ht).2 hNm
    have hk : ∀ (k : Nat) (x : Nat × va_E), (ws_ X M)[k]? = some x → H1[x.1]? = H[x.1]? := fun k x hx => o1 x.1 ((hb.1 k x hx).lt)
    have h3 := kk H1 ((hb.1.kept hk).app (fun k x hx => by
      have hz0 : k < 1 := (List.getElem?_eq_some_iff.mp hx).1
      rw [show k = 0 by omega] at hx
      cases hx
      show H1[H.size]? = some (vp_cell _ _)
      rw [hta, ha0, ← hcA]
      exact e1)) ⟨Nat.le_trans hb.2.1.1 (by omega), fun x g1 g2 => (o1 x (Nat.lt_of_lt_of_le g1 hb.2.1.1)).trans (hb.2.1.2.1 x g1 g2), hb.2.1.2.2⟩
    simp only [csz, hN1] at h3
    rw [hz]
    exact h3
theorem x_newq {i N : Nat} {n : Int32} (hd : decode J.2.1 pc = .ok (.anewarray i, 3)) (hcl : Cond.classLink J.1.cls i "PageMender$Page" ∈ gt) (hn : n = nI N) (hN : N < 2 ^ 20)
    (k : G X d J M0 (pc + 3) ls (.ref M.length :: st) (M ++ [.inl (3, N, .inr (.inr (.inr (.inr (fun _ => none)))))]) v M') : G X d J M0 pc ls (.int n :: st) M v M' :=
  G.by3 k fun p e R s m args below meth c H locs lsM cells slots Q ha hb hz h1 h2 kk => by
    subst hn
    have hK := ha.2.2.2.2.2.2.2.2.2.2.1
    have hts := ha.2.2.2.2.2.2.2.1
    have hcl' : (nI N).toNatClampNeg = N := nI_clamp (by omega)
    refine W.anew ha.1 ha.2.1 ha.2.2.2.2.2.2.1 (hts _ hcl) (va_AO.use ha.2.2.2.2.2.2.2.2.2.2.2.1.2.2.2.1) rfl hd rfl (nI_pos (by omega)) (by rw [hcl']; omega) h1 (by rw [hcl']; exact h2) fun cA kA comp f1 f2 f3 f4 => ?_
    have hcA : cA = ev_k X 3 := ra_id (hK.2 3 (ev_k X 3, .object "PageMender$Page") rfl).2 f1
    rw [hcl']
    generalize hH1 : H.push ({ cls := cA, slots := Array.replicate N .null, vm := .none } : Cell) = H1
    have z1 : H1.size = H.size + 1 := by rw [← hH1, Array.size_push]
    have e1 : H1[H.size]? = some (arrV cA N (fun _ => .null)) := by rw [← hH1, Array.getElem?_push_size, ← arrV_new]
    have o1 : ∀ q : Nat, q < H.size → H1[q]? = H[q]? := fun q hq => by rw [← hH1, Array.getElem?_push, if_neg (Nat.ne_of_lt hq)]
    have hk : ∀ (k : Nat) (x : Nat × va_E), (ws_ X M)[k]? = some x → H1[x.1]? = H[x.1]? := fun k x hx => o1 x.1 ((hb.1 k x hx).lt)
    have h3 := kk H1 ((hb.1.kept hk).app (fun k x hx => by
      have hz0 : k < 1 := (List.getElem?_eq_some_iff.mp hx).1
      rw [show k = 0 by omega] at hx
      cases hx
      show H1[H.size]? = some (vp_cell _ _)
      rw [e1, hcA]
      rfl)) ⟨Nat.le_trans hb.2.1.1 (by omega), fun x g1 g2 => (o1 x (Nat.lt_of_lt_of_le g1 hb.2.1.1)).trans (hb.2.1.2.1 x g1 g2), hb.2.1.2.2⟩
    rw [show (F0 m (pc + 3) lsM (List.map (tv X) (Value.ref M.length :: st))) = F0 m (pc + 3) lsM (.ref H.size :: st.map (tv X)) by rw [hz]; rfl] at h3
    exact h3
theorem x_ret (hd : decode J.2.1 pc = .ok (.return_, 1)) (hr : J.2.2.2 = none) : G X d J M0 pc ls [] M none M :=
  ⟨Le.rf M, fun hL p e R s m args below meth c H locs lsM ha hrr hb => by
    have hlocks : meth.locks = false := ha.2.2.2.2.1
    exact W.vret ha.1 ha.2.1 (ha.2.2.2.1.trans hr) (fun t ht hW => ⟨⟨rfl, by rw [ht]; exact hb.1⟩, hb.2.1.F ht⟩) hb.2.1.2.2 hd⟩
theorem x_ireturn {x : Int32} (hd : decode J.2.1 pc = .ok (.ireturn, 1)) (hr : J.2.2.2 = some .int) : G X d J M0 pc ls [.int x] M (some (.int x)) M :=
  ⟨Le.rf M, fun hL p e R s m args below meth c H locs lsM ha hrr hb => by
    have hlocks : meth.locks = false := ha.2.2.2.2.1
    exact W.iret ha.1 ha.2.1 (ha.2.2.2.1.trans hr) (fun t ht hW => ⟨⟨rfl, by rw [ht]; exact hb.1⟩, hb.2.1.F ht⟩) hb.2.1.2.2 hd⟩
theorem x_zreturn {x : Int32} (hd : decode J.2.1 pc = .ok (.ireturn, 1)) (hr : J.2.2.2 = some .boolean) (hn : narrow .boolean (.int x) = .int x) : G X d J M0 pc ls [.int x] M (some (.int x)) M :=
  ⟨Le.rf M, fun hL p e R s m args below meth c H locs lsM ha hrr hb => by
    have hlocks : meth.locks = false := ha.2.2.2.2.1
    exact W.zret ha.1 ha.2.1 (ha.2.2.2.1.trans hr) hn (fun t ht hW => ⟨⟨rfl, by rw [ht]; exact hb.1⟩, hb.2.1.F ht⟩) hb.2.1.2.2 hd⟩
theorem cat_sum (X : Ev) (st : List Value) : ((st.map (tv X)).map fun v => v.category).sum = (st.map fun v => v.category).sum := by
  rw [List.map_map]
  congr 1
  exact List.map_congr_left (fun v _ => tv_cat X v)
theorem x_objInit {i a : Nat} (hd : decode J.2.1 pc = .ok (.invokespecial i, 3)) (hlk : Cond.methodLink J.1.cls i objectInit ∈ gt) (hin : Cond.instanceMethod objectInit ∈ gt) (hco : Cond.code objectInit ⟨#[0xb1]⟩ 1 none ∈ gt) (hdd : 1 ≤ d) (hsum : (st.map fun v => v.category).sum ≤ 8) (k : G X d J M0 (pc + 3) ls st M v M') : G X d J M0 pc ls (.ref a :: st) M v M' :=
  G.by1 k fun p e R s m args below meth c H locs lsM cells slots Q ha hb kk => by
    have hts := ha.2.2.2.2.2.2.2.1
    have h1 := ha.2.2.2.2.2.2.2.2.1
    have h2 := ha.2.2.2.2.2.2.2.2.2.1
    refine W.objInit ha.1 ha.2.1 ha.2.2.2.2.2.2.1 (hts _ hlk) (hts _ hin) (hts _ hco) rfl (by rw [ha.2.2.1]; exact hb.2.2.1) rfl hd (by omega) ?_ (kk lsM hb.2.2)
    have h3 := lv_room (m := m) (pc := pc) (ls := lsM) (rest := st.map (tv X)) (st := st.map (tv X)) (by rw [cat_sum]; exact hsum)
    have h4 : (F0 m pc lsM (List.map (tv X) (Value.ref a :: st))).monitorRoom = (F0 m pc lsM (st.map (tv X))).monitorRoom := rfl
    rw [h4]
    omega
/-- what the tables must say of a method that is called: n parameters -/
def Mk (J : Jt) (n : Nat) : Prop := Cond.code J.1 J.2.1 J.2.2.1 J.2.2.2 ∈ gt ∧ Cond.initialized J.1.cls ∈ gt ∧ J.1.cls ≠ "java/lang/invoke/MethodHandle" ∧ J.1.cls ≠ "java/lang/invoke/VarHandle" ∧ (parseMethodDescriptor J.1.desc).map (fun d => d.parameters.length) = some n ∧ J.2.2.1 ≤ 9
theorem jw_in {J : Jt} {n : Nat} (h : Mk J n) : ∀ w ∈ jw J, w ∈ gt := fun w hw => by
  rcases List.mem_cons.mp hw with h1 | h1
  · rw [h1]; exact h.1
  · exact h1
theorem callB_k {J' : Jt} {n d' : Nat} {R : Room} {s : State} {args : Array Value} {own : String} {i mc ms : Nat} (hm : Mk J' n) (hts : ∀ w ∈ gt, w.before args s = true) (hlk : Cond.methodLink own i J'.1 ∈ gt) (hR : d' + 1 ≤ R.frames ∧ 28 * (d' + 1) ≤ R.locals) :
    CallB R s args own i J'.1 J'.2.1 J'.2.2.1 J'.2.2.2 (jw J') { frames := d', cells := mc, slots := ms, locals := 28 * d' } mc ms n :=
  callB_of n hts (gt_in (jw_in hm)) rfl rfl rfl (hts _ hm.2.1) (hts _ hlk) ⟨hm.2.2.1, hm.2.2.2.1, hm.2.2.2.2.1⟩ ⟨hR.1, by
    have := hm.2.2.2.2.2
    have := hR.2
    show 8 + (J'.2.2.1 + 11) + 28 * d' ≤ R.locals
    omega⟩
theorem G.by4 {J' : Jt} {d' : Nat} {as : List Value} {r : Option Value} {M1 : Hp} {st0 : List Value} (hC : Cl X d' J' as M r M1) (k : G X d J M0 (pc + 3) ls (r.toList ++ st) M1 v M')
    (h : ∀ (p : Program) (e : Env) (R : Room) (s : State) (m : MethodId) (args : Array Value) (below : List Frame) (meth : Method) (c : Code) (H : Heap) (locs : List Loc) (lsM : Array Slot) (cells slots : Nat), Ca X d J M0 p R s m args meth c → Cb X J s M ls H locs lsM → PreS s H (va_Pc (as.map (tv X)) (Pk X M)) (as.map (tv X)) → cells + (M1.length - M.length) ≤ R.cells ∧ slots + (sl M1 - sl M) ≤ R.slots →
      va_Run p (ev_l X) e R s m args below meth c H locs cells slots (M1.length - M.length) (sl M1 - sl M) (F0 m pc lsM (st0.map (tv X))) (st.map (tv X)) (Qk X r M1 (as.map (tv X)).toArray) (evA X)) : G X d J M0 pc ls st0 M v M' := by
  refine ⟨hC.1.tr k.1, fun hL p e R s m args below meth c H locs lsM ha hr hb => W.sz fun hz => ?_⟩
  have h0 : ev_o X ≤ s.heap.size := by rw [ha.2.2.2.2.2.2.2.2.2.2.2.2]; omega
  have hge := hp_ge hb.1 hb.2.1 h0
  have h5 := ha.2.2.2.2.2.2.2.2.2.2.2.2
  have h6 := hL.1
  have h7 := hL.2
  have h8 := hC.1.1
  have h9 := hC.1.2
  have g1 := k.1.1
  have g2 := k.1.2
  have g3 := hr.1
  have g4 := hr.2
  have hz2 : H.size = ev_o X + M.length := by omega
  have hpre : PreS s H (va_Pc (as.map (tv X)) (Pk X M)) (as.map (tv X)) := ⟨Pk.blind X M _, fun U hU hW => ⟨rfl, by rw [hU]; exact hb.1, va_K.moved hW.alike ha.2.2.2.2.2.2.2.2.2.2.1, by rw [hU]; exact hz2, Ro.at ha.2.2.2.2.2.2.2.2.2.2.2.1 hb.2.1 hU hW.alike (nls_warm hW)⟩⟩
  refine va_callk (h p e R s m args below meth c H locs lsM _ _ ha hb hpre ⟨by omega, by omega⟩) hb.2.1 (fun H1 locs1 hP hS => ?_)
  have h10 := k.2 ⟨by omega, by omega⟩ p e R s m args below meth c H1 locs1 lsM ha hr ⟨hP, hS, hb.2.2⟩
  rw [show M.length - M0.length + (M1.length - M.length) = M1.length - M0.length by omega, show sl M - sl M0 + (sl M1 - sl M) = sl M1 - sl M0 by omega]
  have e1 : (r.map (tv X)).toList ++ st.map (tv X) = (r.toList ++ st).map (tv X) := by cases r <;> rfl
  rw [e1]
  exact h10
theorem x_callS {i n : Nat} {J' : Jt} {d' : Nat} {as : List Value} {r : Option Value} {M1 : Hp} {st0 : List Value} (hd : decode J.2.1 pc = .ok (.invokestatic i, 3)) (hm : Mk J' n) (hsta : Cond.static J'.1 ∈ gt) (hlk : Cond.methodLink J.1.cls i J'.1 ∈ gt) (hdd : d' + 1 ≤ d) (hn : as.length = n) (hst : st0 = as.reverse ++ st) (hsum : (st.map fun v => v.category).sum ≤ 8) (hC : Cl X d' J' as M r M1) (k : G X d J M0 (pc + 3) ls (r.toList ++ st) M1 v M') : G X d J M0 pc ls st0 M v M' :=
  G.by4 hC k fun p e R s m args below meth c H locs lsM cells slots ha hb hpre hf => by
    have hts := ha.2.2.2.2.2.2.2.1
    have h1 := ha.2.2.2.2.2.2.2.2.1
    have h2 := ha.2.2.2.2.2.2.2.2.2.1
    exact va_runS (As := as.map (tv X)) (rest := st.map (tv X)) ⟨ha.1, ha.2.1, ha.2.2.1, ha.2.2.2.2.2.2.1, hts⟩ hC.2 ⟨callB_k hm hts hlk ⟨by omega, by omega⟩, hts _ hsta⟩ hpre rfl (by simpa using hn) hb.2.2.1 (by show st0.map (tv X) = _; rw [hst]; simp) (lv_room (by rw [cat_sum]; exact hsum)) hd hf
theorem x_callI {i n b : Nat} {J' : Jt} {d' : Nat} {as : List Value} {M1 : Hp} {st0 : List Value} (hd : decode J.2.1 pc = .ok (.invokespecial i, 3)) (hm : Mk J' n) (hrt : J'.2.2.2 = none) (hnm : J'.1.name = "<init>") (hin : Cond.instanceMethod J'.1 ∈ gt) (hlk : Cond.methodLink J.1.cls i J'.1 ∈ gt) (hdd : d' + 1 ≤ d) (hn : as.length = n) (hst : st0 = as.reverse ++ .ref b :: st) (hsum : (st.map fun v => v.category).sum ≤ 8) (hC : Cl X d' J' (.ref b :: as) M none M1) (k : G X d J M0 (pc + 3) ls st M1 v M') : G X d J M0 pc ls st0 M v M' :=
  G.by4 (r := none) hC k fun p e R s m args below meth c H locs lsM cells slots ha hb hpre hf => by
    have hts := ha.2.2.2.2.2.2.2.1
    have h1 := ha.2.2.2.2.2.2.2.2.1
    have h2 := ha.2.2.2.2.2.2.2.2.2.1
    have hcb := callB_k (d' := d') (mc := M1.length - M.length) (ms := sl M1 - sl M) (R := R) hm hts hlk ⟨by omega, by omega⟩
    rw [hrt] at hcb
    exact va_runI (As := as.map (tv X)) (b := ev_o X + b) (rest := st.map (tv X)) ⟨ha.1, ha.2.1, ha.2.2.1, ha.2.2.2.2.2.2.1, hts⟩ hC.2 ⟨hcb, hnm, hts _ hin⟩ hpre rfl (by simpa using hn) hb.2.2.1 (by show st0.map (tv X) = _; rw [hst]; simp [tv]) (lv_room (by rw [cat_sum]; exact hsum)) hd hf
theorem x_callIN {i n b : Nat} {J' : Jt} {d' : Nat} {as : List Value} {M1 : Hp} {st0 : List Value} {host : String} (hd : decode J.2.1 pc = .ok (.invokespecial i, 3)) (hm : Mk J' n) (hrt : J'.2.2.2 = none) (hnm : J'.1.name = "<init>") (hin : Cond.instanceMethod J'.1 ∈ gt) (hlk : Cond.methodLinkNest J.1.cls i J'.1 host ∈ nls) (hdd : d' + 1 ≤ d) (hn : as.length = n) (hst : st0 = as.reverse ++ .ref b :: st) (hsum : (st.map fun v => v.category).sum ≤ 8) (hC : Cl X d' J' (.ref b :: as) M none M1) (k : G X d J M0 (pc + 3) ls st M1 v M') : G X d J M0 pc ls st0 M v M' :=
  G.by4 (r := none) hC k fun p e R s m args below meth c H locs lsM cells slots ha hb hpre hf => by
    have hts := ha.2.2.2.2.2.2.2.1
    have h1 := ha.2.2.2.2.2.2.2.2.1
    have h2 := ha.2.2.2.2.2.2.2.2.2.1
    have hN := ha.2.2.2.2.2.2.2.2.2.2.2.1.2.2.2.2
    have hcb := va_cnB (R := R) (s := s) (args := args) (own := J.1.cls) (index := i) (y := J'.1) (bytes := J'.2.1) (maxL := J'.2.2.1) (ret := J'.2.2.2) (Ts := gt) (ws := jw J') (rm := { frames := d', cells := M1.length - M.length, slots := sl M1 - sl M, locals := 28 * d' }) n hts (gt_in (jw_in hm)) rfl rfl rfl (hN _ hlk) (hts _ hm.2.1) ⟨hm.2.2.1, hm.2.2.2.1, hm.2.2.2.2.1⟩ ⟨by show d' + 1 ≤ R.frames; omega, by
      have := hm.2.2.2.2.2
      show 8 + (J'.2.2.1 + 11) + 28 * d' ≤ R.locals
      omega⟩
    rw [hrt] at hcb
    exact va_runIN (As := as.map (tv X)) (b := ev_o X + b) (rest := st.map (tv X)) ⟨ha.1, ha.2.1, ha.2.2.1, ha.2.2.2.2.2.2.1, hts⟩ hC.2 ⟨hcb, hnm, hts _ hin⟩ hpre rfl (by simpa using hn) hb.2.2.1 (by show st0.map (tv X) = _; rw [hst]; simp [tv]) (lv_room (by rw [cat_sum]; exact hsum)) hd hf
theorem x_callV {i n b ci : Nat} {J' : Jt} {d' : Nat} {as : List Value} {r : Option Value} {M1 : Hp} {st0 : List Value} {fs : List Value} {T : u_T} {N : Nat} (hd : decode J.2.1 pc = .ok (.invokevirtual i, 3)) (hm : Mk J' n) (hin : Cond.instanceMethod J'.1 ∈ gt) (hsel : Cond.selects J'.1.cls J'.1 J'.1 ∈ gt) (hlk : Cond.methodLink J.1.cls i J'.1 ∈ gt) (hc : cls_[ci]? = some (J'.1.cls, T, N)) (hM : M[b]? = some (.inr (ci, fs))) (hdd : d' + 1 ≤ d) (hn : as.length = n) (hst : st0 = as.reverse ++ .ref b :: st) (hsum : (st.map fun v => v.category).sum ≤ 8) (hC : Cl X d' J' (.ref b :: as) M r M1) (k : G X d J M0 (pc + 3) ls (r.toList ++ st) M1 v M') : G X d J M0 pc ls st0 M v M' :=
  G.by4 hC k fun p e R s m args below meth c H locs lsM cells slots ha hb hpre hf => by
    have hts := ha.2.2.2.2.2.2.2.1
    have h1 := ha.2.2.2.2.2.2.2.2.1
    have h2 := ha.2.2.2.2.2.2.2.2.2.1
    exact va_runV (As := as.map (tv X)) (b := ev_o X + b) (rest := st.map (tv X)) ⟨ha.1, ha.2.1, ha.2.2.1, ha.2.2.2.2.2.2.1, hts⟩ hC.2 ⟨callB_k hm hts hlk ⟨by omega, by omega⟩, hts _ hin, hts _ hsel⟩ ⟨hpre.1, va_recv ha.2.2.2.2.2.2.2.2.2.2.1 hb.1 hc (ws_get hM), hpre.2⟩ rfl (by simpa using hn) hb.2.2.1 (by show st0.map (tv X) = _; rw [hst]; simp [tv]) (lv_room (by rw [cat_sum]; exact hsum)) hd hf
theorem Cl.of {as : List Value} (hy : plainName J.1.cls = true) (hls : lq X 0 ls = lv_args 0 (as.map (tv X))) (hle : (lg_sl (as.map (tv X))).length ≤ J.2.2.1) (k : G X d J M 0 ls [] M v M') : Cl X d J as M v M' := by
  refine ⟨k.1, Met.ofW (cc := J.2.1) (maxL := J.2.2.1) (ret := J.2.2.2) hy rfl ?_⟩
  intro p e s m args below meth c s₁ B hml hv
  obtain ⟨rfl, hP, hK, hz, hR⟩ := hv
  have hts := atoms_spec (ws := jw J) B.pre
  have hl := lv_entry (as.map (tv X)) (n := J.2.2.1) hle
  rw [lg_entry_eq]
  rw [← hls] at hl
  have h := k.2 (Le.rf M) p e (headSpec (jw J) { frames := d, cells := M'.length - M.length, slots := sl M' - sl M, locals := 28 * d }).room s m (as.map (tv X)).toArray below meth c s.heap [] _
    ⟨B.exec, B.bytes, hml, B.returns, B.notSynchronized, fun hn => ((name_of_methodNamed B.named B.method).1).trans hn, findClass_of_methodNamed B.named, fun w hw => hts w (List.mem_cons_of_mem _ hw), Nat.le_refl _, Nat.le_refl _, hK, hR, hz⟩ ⟨Nat.le_refl _, Nat.le_refl _⟩ ⟨hP, va_S.rf, hl⟩
  rw [Nat.sub_self, Nat.sub_self] at h
  exact h
theorem x_copyl {i a0 a n0 n1 np : Nat} {f g : Nat → Int64} {M1 : Hp} (hd : decode J.2.1 pc = .ok (.invokestatic i, 3)) (hlk : Cond.methodLink J.1.cls i arraycopyName ∈ gt) (hnat : Cond.native arraycopyName ∈ gt) (hstat : Cond.static arraycopyName ∈ gt) (hini : Cond.initialized "java/lang/System" ∈ gt) (hM0 : M[a0]? = some (.inl (1, n0, .inr (.inl f)))) (hMa : M[a]? = some (.inl (1, n1, .inr (.inl g)))) (h4 : np ≤ n0) (h5 : np ≤ n1) (hnp : np < 2 ^ 31) (hdd : 1 ≤ d) (hsum : (st.map fun v => v.category).sum ≤ 0)
    (hM1 : M.set a (.inl (1, n1, .inr (.inl (va_cpy f g 0 0 np)))) = M1) (k : G X d J M0 (pc + 3) ls st M1 v M') : G X d J M0 pc ls (.int (nI np) :: .int 0 :: .ref a :: .int 0 :: .ref a0 :: st) M v M' := by
  subst hM1
  exact G.by2 k (by simp) (sl_set M a _ _ hMa (by simp [csz])) fun p e R s m args below meth c H locs lsM cells slots Q ha hb kk => by
    have hts := ha.2.2.2.2.2.2.2.1
    have h1 := ha.2.2.2.2.2.2.2.2.1
    have h2 := ha.2.2.2.2.2.2.2.2.2.1
    have hc := nI_clamp (n := np) hnp
    have c0 : (0 : Int32).toNatClampNeg = 0 := rfl
    refine va_copyl (D := ev_D X) ha.1 ha.2.1 (by rw [ha.2.2.1]; exact hb.2.2.1.symm) ha.2.2.2.2.2.2.1 (hts _ hlk) (hts _ hnat) (hts _ hstat) (hts _ hini) ha.2.2.2.2.2.2.2.2.2.2.1 hb.1 (ws_D X M) hb.2.1 a0 a 1 1 (ws_get hM0) (ws_get hMa) rfl rfl rfl (by decide) (by decide) (nI_pos hnp) (by rw [c0, hc]; omega) (by rw [c0, hc]; omega) (fun _ _ => rfl) (by omega) ?_ hd (fun H1 locs1 hP _ hS => kk H1 locs1 (by rw [c0, hc] at hP; rw [← ws_set]; exact hP) hS)
    rw [cat_sum]
    have e5 : nativeFrameWords "java/lang/System" "arraycopy" 5 + 11 ≤ 28 := by decide +kernel
    omega
theorem x_copyi {i a0 a n0 n1 np : Nat} {f g : Nat → Int32} {M1 : Hp} (hd : decode J.2.1 pc = .ok (.invokestatic i, 3)) (hlk : Cond.methodLink J.1.cls i arraycopyName ∈ gt) (hnat : Cond.native arraycopyName ∈ gt) (hstat : Cond.static arraycopyName ∈ gt) (hini : Cond.initialized "java/lang/System" ∈ gt) (hM0 : M[a0]? = some (.inl (0, n0, .inl f))) (hMa : M[a]? = some (.inl (0, n1, .inl g))) (h4 : np ≤ n0) (h5 : np ≤ n1) (hnp : np < 2 ^ 31) (hdd : 1 ≤ d) (hsum : (st.map fun v => v.category).sum ≤ 0)
    (hM1 : M.set a (.inl (0, n1, .inl (va_cpy f g 0 0 np))) = M1) (k : G X d J M0 (pc + 3) ls st M1 v M') : G X d J M0 pc ls (.int (nI np) :: .int 0 :: .ref a :: .int 0 :: .ref a0 :: st) M v M' := by
  subst hM1
  exact G.by2 k (by simp) (sl_set M a _ _ hMa (by simp [csz])) fun p e R s m args below meth c H locs lsM cells slots Q ha hb kk => by
    have hts := ha.2.2.2.2.2.2.2.1
    have h1 := ha.2.2.2.2.2.2.2.2.1
    have h2 := ha.2.2.2.2.2.2.2.2.2.1
    have hc := nI_clamp (n := np) hnp
    have c0 : (0 : Int32).toNatClampNeg = 0 := rfl
    refine va_copyi (D := ev_D X) ha.1 ha.2.1 (by rw [ha.2.2.1]; exact hb.2.2.1.symm) ha.2.2.2.2.2.2.1 (hts _ hlk) (hts _ hnat) (hts _ hstat) (hts _ hini) ha.2.2.2.2.2.2.2.2.2.2.1 hb.1 (ws_D X M) hb.2.1 a0 a 0 0 (ws_get hM0) (ws_get hMa) rfl rfl rfl (by decide) (by decide) (nI_pos hnp) (by rw [c0, hc]; omega) (by rw [c0, hc]; omega) (fun _ _ => rfl) (by omega) ?_ hd (fun H1 locs1 hP _ hS => kk H1 locs1 (by rw [c0, hc] at hP; rw [← ws_set]; exact hP) hS)
    rw [cat_sum]
    have e5 : nativeFrameWords "java/lang/System" "arraycopy" 5 + 11 ≤ 28 := by decide +kernel
    omega
end HEAPROWS
