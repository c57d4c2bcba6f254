/-! heaps that the machine can't tell apart: arrays that hold the same below their lengths -/
theorem arrV_congr {c N : Nat} {f g : Nat → Value} (h : ∀ j, j < N → f j = g j) : arrV c N f = arrV c N g := by
  unfold arrV
  congr 2
  funext j
  exact h j.val j.isLt
def Sc (c c' : Cel) : Prop := csz c = csz c' ∧ ∀ (X : Ev) (a : Nat) (H : Heap), va_at (ev_D X) cls_ (a, te X c) H ↔ va_at (ev_D X) cls_ (a, te X c') H
def Sm (M M1 : Hp) : Prop := M.length = M1.length ∧ ∀ (i : Nat) (c c' : Cel), M[i]? = some c → M1[i]? = some c' → Sc c c'
theorem Sc.rf (c : Cel) : Sc c c := ⟨rfl, fun _ _ _ => Iff.rfl⟩
theorem Sc.sy {c c' : Cel} (h : Sc c c') : Sc c' c := ⟨h.1.symm, fun X a H => (h.2 X a H).symm⟩
theorem Sm.rf (M : Hp) : Sm M M := ⟨rfl, fun i c c' h h' => by cases h.symm.trans h'; exact Sc.rf c⟩
theorem Sm.sy {M M1 : Hp} (h : Sm M M1) : Sm M1 M := ⟨h.1.symm, fun i c c' h1 h2 => (h.2 i c' c h2 h1).sy⟩
theorem Sm.tr {M M1 M2 : Hp} (h : Sm M M1) (h2 : Sm M1 M2) : Sm M M2 := ⟨h.1.trans h2.1, fun i c c' q q' => by
  have hl : i < M1.length := by rw [← h.1]; exact (List.getElem?_eq_some_iff.mp q).1
  have g1 := h.2 i c _ q (List.getElem?_eq_getElem hl)
  have g2 := h2.2 i _ c' (List.getElem?_eq_getElem hl) q'
  exact ⟨g1.1.trans g2.1, fun X a H => (g1.2 X a H).trans (g2.2 X a H)⟩⟩
theorem Sm.eqs : ∀ {M M1 : Hp}, Sm M M1 → sl M = sl M1
  | [], [], _ => rfl
  | [], _ :: _, h => absurd h.1 (by simp)
  | _ :: _, [], h => absurd h.1 (by simp)
  | c :: M, c' :: M1, h => by
    have h1 := (h.2 0 c c' rfl rfl).1
    have h2 : Sm M M1 := ⟨by simpa using h.1, fun i a b q q' => h.2 (i + 1) a b (by simpa using q) (by simpa using q')⟩
    have h3 := Sm.eqs h2
    simp only [sl, List.map_cons, List.sum_cons] at h3 ⊢
    omega
theorem Sm.P {M M1 : Hp} (h : Sm M M1) {X : Ev} {H : Heap} (hP : va_P (ev_D X) cls_ (ws_ X M) H) : va_P (ev_D X) cls_ (ws_ X M1) H := by
  intro k q hq
  have hl : k < M1.length := by
    have := (List.getElem?_eq_some_iff.mp hq).1
    rwa [ws_len] at this
  have hl2 : k < M.length := by rw [h.1]; exact hl
  rw [ws_get (X := X) (List.getElem?_eq_getElem hl)] at hq
  cases hq
  exact ((h.2 k _ _ (List.getElem?_eq_getElem hl2) (List.getElem?_eq_getElem hl)).2 X _ H).mp (hP k _ (ws_get (X := X) (List.getElem?_eq_getElem hl2)))
theorem Sm.set {M M1 : Hp} (h : Sm M M1) {p : Nat} {c c' : Cel} (hc : Sc c c') : Sm (M.set p c) (M1.set p c') := by
  refine ⟨by simpa using h.1, fun i a b q q' => ?_⟩
  by_cases hp : p = i
  · subst hp
    by_cases hl : p < M.length
    · rw [List.getElem?_set_self hl] at q
      rw [List.getElem?_set_self (by rw [← h.1]; exact hl)] at q'
      cases q; cases q'; exact hc
    · rw [List.getElem?_eq_none (by simp; omega)] at q
      cases q
  · rw [List.getElem?_set_ne hp] at q q'
    exact h.2 i a b q q'
theorem Sm.set1 {M : Hp} {p : Nat} {c c' : Cel} (hc : Sc c c') : Sm (M.set p c) (M.set p c') := (Sm.rf M).set hc
theorem Sc.i {t n : Nat} {f g : Nat → Int32} (h : ∀ j, j < n → f j = g j) : Sc (.inl (t, n, .inl f)) (.inl (t, n, .inl g)) := ⟨rfl, fun X a H => by
  have e : vp_cell (ev_k X t) (n, .inl f) = vp_cell (ev_k X t) (n, .inl g) := by
    rw [vp_cell_i, vp_cell_i]
    exact arrV_congr (fun j hj => by rw [h j hj])
  show H[a]? = some (vp_cell (ev_k X t) (n, .inl f)) ↔ H[a]? = some (vp_cell (ev_k X t) (n, .inl g))
  rw [e]⟩
theorem Sc.l {t n : Nat} {f g : Nat → Int64} (h : ∀ j, j < n → f j = g j) : Sc (.inl (t, n, .inr (.inl f))) (.inl (t, n, .inr (.inl g))) := ⟨rfl, fun X a H => by
  have e : vp_cell (ev_k X t) (n, .inr (.inl f)) = vp_cell (ev_k X t) (n, .inr (.inl g)) := by
    rw [vp_cell_l, vp_cell_l]
    exact arrV_congr (fun j hj => by rw [h j hj])
  show H[a]? = some (vp_cell (ev_k X t) (n, .inr (.inl f))) ↔ H[a]? = some (vp_cell (ev_k X t) (n, .inr (.inl g)))
  rw [e]⟩
section SAME
variable {X : Ev} {d : Nat} {J : Jt} {M0 M M' : Hp} {pc : Nat} {ls : List (Option Value)} {st : List Value} {v : Option Value}
theorem G.same {M1 : Hp} (h : Sm M M1) (k : G X d J M0 pc ls st M1 v M') : G X d J M0 pc ls st M v M' := by
  have e1 := h.1
  have e2 := h.eqs
  refine ⟨⟨by rw [e1]; exact k.1.1, by rw [e2]; exact k.1.2⟩, fun hL p e R s m args below meth c H locs lsM ha hr hb => ?_⟩
  have := k.2 ⟨by rw [← e1]; exact hL.1, by rw [← e2]; exact hL.2⟩ p e R s m args below meth c H locs lsM ha hr ⟨h.P hb.1, hb.2⟩
  rw [← e1, ← e2] at this
  exact this
theorem G.post {M1 : Hp} (h : Sm M1 M') (k : G X d J M0 pc ls st M v M1) : G X d J M0 pc ls st M v M' := by
  have e1 := h.1
  have e2 := h.eqs
  refine ⟨⟨by rw [← e1]; exact k.1.1, by rw [← e2]; exact k.1.2⟩, fun hL p e R s m args below meth c H locs lsM ha hr hb => ?_⟩
  have h3 := k.2 hL p e R s m args below meth c H locs lsM ha (by rw [e1, e2]; exact hr) hb
  intro T hT Y
  obtain ⟨t, s1, o, q1, q2, q3, LL, q4, q5⟩ := h3 T hT Y
  rw [e1, e2] at q4
  exact ⟨t, s1, o, q1, q2, ⟨⟨q3.1.1, h.P q3.1.2⟩, q3.2⟩, LL, q4, q5⟩
end SAME
/-! a method of a class some of whose methods have rows of their own, where this one has none -/
theorem Met.ofWF {l : Launch} {y : MethodName} {ws ws' : List Cond} {rm : Room} {Pc : Array Value → State → Prop} {Qc : Array Value → State → Outcome → State → Prop} {mc ms : Nat} {free : Addr → Prop} {cc : ByteArray} {maxL : Nat} {ret : Option FieldType}
    (hy : plainFor y = true) (hw : ws = Cond.code y cc maxL ret :: ws')
    (body : ∀ p e s m args below meth c s₁, BodyLoose p l y (headSpec ws rm) cc maxL ret e s m args below meth c s₁ → c.maxLocals = maxL → Pc args s →
      W p l e (headSpec ws rm).room s m args below meth c s.heap [] 0 0 (MQ below Qc args s mc ms free) (entryFrame m args maxL)) : Met l y ws rm Pc Qc mc ms free := by
  refine MetFree.of_bodySF (code := cc) (maxLocals := maxL) (ret := ret) hy ?_ ?_
  · intro args s m h hn
    obtain ⟨meth, c, h1, h2, h3, h4, h5, h6, -, -⟩ := Cond.code_spec hn (atoms_spec (ws := ws) h _ (by rw [hw]; exact List.mem_cons_self))
    exact ⟨meth, c, h1, h2, h3, h4, h5, h6⟩
  · intro p e s m args below meth c s₁ B hml hP _
    have hh0 : s₁.heap = s.heap := by rw [B.state]; rfl
    obtain ⟨t, a1, o, b1, b2, b3⟩ := body p e s m args below meth c s₁ B hml hP s₁ hh0 (Stand.of_body B)
    exact ⟨t, o, a1, b1, b2, ⟨b3.1, b3.2⟩⟩
theorem Cl.ofF {X : Ev} {d : Nat} {J : Jt} {M M' : Hp} {ls : List (Option Value)} {v : Option Value} {as : List Value} (hy : plainFor J.1 = true) (hls : lq X 0 ls = lv_args 0 (as.map (tv X))) (hle : (lg_sl (as.map (tv X))).length ≤ J.2.2.1) (k : G X d J M 0 ls [] M v M') : Cl X d J as M v M' := by
  refine ⟨k.1, Met.ofWF (cc := J.2.1) (maxL := J.2.2.1) (ret := J.2.2.2) hy rfl ?_⟩
  intro p e s m args below meth c s₁ B hml hv
  obtain ⟨rfl, hP, hK, hz, hR⟩ := hv
  have hts := atoms_spec (ws := jw J) B.pre
  have hl := lv_entry (as.map (tv X)) (n := J.2.2.1) hle
  rw [lg_entry_eq]
  rw [← hls] at hl
  have h := k.2 (Le.rf M) p e (headSpec (jw J) { frames := d, cells := M'.length - M.length, slots := sl M' - sl M, locals := 28 * d }).room s m (as.map (tv X)).toArray below meth c s.heap [] _
    ⟨B.exec, B.bytes, hml, B.returns, B.notSynchronized, fun hn => ((name_of_methodNamed B.named B.method).1).trans hn, findClass_of_methodNamed B.named, fun w hw => hts w (List.mem_cons_of_mem _ hw), Nat.le_refl _, Nat.le_refl _, hK, hR, hz⟩ ⟨Nat.le_refl _, Nat.le_refl _⟩ ⟨hP, va_S.rf, hl⟩
  rw [Nat.sub_self, Nat.sub_self] at h
  exact h
