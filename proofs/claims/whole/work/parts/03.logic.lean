/-! A logic over places: a heap is a list of cells, a reference is a place in it (the address is the base and the place). G: the code of a method from a pc on; Cl: a method. -/
abbrev Ev : Type := Launch × va_G × (Nat → ClassId) × Nat × Nat × Nat × Nat × (Nat → Int32)
abbrev ev_l (X : Ev) : Launch := X.1
abbrev ev_D (X : Ev) : va_G := X.2.1
abbrev ev_k (X : Ev) : Nat → ClassId := X.2.2.1
abbrev ev_o (X : Ev) : Nat := X.2.2.2.1
abbrev ev_b (X : Ev) : Nat := X.2.2.2.2.1
abbrev ev_p (X : Ev) : Nat := X.2.2.2.2.2.1
abbrev ev_L (X : Ev) : Nat := X.2.2.2.2.2.2.1
abbrev ev_x (X : Ev) : Nat → Int32 := X.2.2.2.2.2.2.2
abbrev Cel : Type := (Nat × vp_A) ⊕ (Nat × List Value)
abbrev Hp : Type := List Cel
/-- a value as the machine has it: a place is an address; retAddr 0 stands for the script, retAddr 1 for the table of polynomials -/
def tv (X : Ev) : Value → Value
  | .ref i => .ref (ev_o X + i)
  | .retAddr 0 => .ref (ev_b X)
  | .retAddr (_ + 1) => .ref (ev_p X)
  | v => v
def ta (X : Ev) (a : vp_A) : vp_A := match a with
  | (n, .inr (.inr (.inr (.inr f)))) => (n, .inr (.inr (.inr (.inr (fun j => (f j).map (fun i => ev_o X + i))))))
  | x => x
def te (X : Ev) : Cel → va_E
  | .inl (t, a) => .inl (ev_k X t, ta X a)
  | .inr (ci, fs) => .inr (ci, fs.map (tv X))
def ws_ (X : Ev) (M : Hp) : va_W := M.mapIdx (fun i c => (ev_o X + i, te X c))
def csz : Cel → Nat
  | .inl (_, a) => a.1
  | .inr (_, fs) => fs.length
def sl (M : Hp) : Nat := (M.map csz).sum
theorem ta_1 (X : Ev) (a : vp_A) : (ta X a).1 = a.1 := by
  unfold ta; split <;> rfl
theorem tv_cat (X : Ev) (v : Value) : (tv X v).category = v.category := by
  cases v with
  | retAddr n => cases n <;> rfl
  | _ => rfl
theorem ws_get {X : Ev} {M : Hp} {i : Nat} {c : Cel} (h : M[i]? = some c) : (ws_ X M)[i]? = some (ev_o X + i, te X c) := by
  simp [ws_, h]
theorem ws_set {X : Ev} {M : Hp} {i : Nat} {c : Cel} : (ws_ X M).set i (ev_o X + i, te X c) = ws_ X (M.set i c) := by
  apply List.ext_getElem?
  intro j
  by_cases h : i = j
  · subst h
    by_cases hl : i < M.length
    · rw [List.getElem?_set_self (by simpa [ws_] using hl)]
      simp [ws_, hl]
    · rw [List.getElem?_eq_none (by simp [ws_]; omega), List.getElem?_eq_none (by simp [ws_]; omega)]
  · rw [List.getElem?_set_ne h]
    simp only [ws_, List.getElem?_mapIdx]
    rw [List.getElem?_set_ne h]
theorem ws_push {X : Ev} {M : Hp} {c : Cel} : ws_ X M ++ [(ev_o X + M.length, te X c)] = ws_ X (M ++ [c]) := by
  simp [ws_, List.mapIdx_append]
theorem ws_len {X : Ev} {M : Hp} : (ws_ X M).length = M.length := by simp [ws_]
theorem sl_push (M : Hp) (c : Cel) : sl (M ++ [c]) = sl M + csz c := by simp [sl]
theorem sl_set : ∀ (M : Hp) (i : Nat) (c c' : Cel), M[i]? = some c → csz c' = csz c → sl (M.set i c') = sl M
  | [], i, c, c', h, _ => by simp at h
  | a :: M, 0, c, c', h, e => by
    simp at h; subst h; simp [sl, e]
  | a :: M, i + 1, c, c', h, e => by
    have := sl_set M i c c' (by simpa using h) e
    simp only [sl, List.set_cons_succ, List.map_cons, List.sum_cons] at this ⊢
    omega
theorem ws_D (X : Ev) (M : Hp) : va_D (fun q => ev_o X ≤ q) (ws_ X M) := by
  have key : ∀ (k : Nat) (q : Nat × va_E), (ws_ X M)[k]? = some q → q.1 = ev_o X + k := by
    intro k q h
    simp only [ws_, List.getElem?_mapIdx] at h
    cases hm : M[k]? with
    | none => rw [hm] at h; cases h
    | some c => rw [hm] at h; cases h; rfl
  refine ⟨fun i j x y h1 h2 h3 => ?_, fun k q h => ?_⟩
  · have := key i x h1
    have := key j y h2
    omega
  · show ev_o X ≤ q.1
    rw [key k q h]; omega
def pols : Nat → Int32 := fun j => ([11, 19, 37, 67, 137, 285, 529, 1033, 2053, 4179, 8219] : List Int32).getD j 0
abbrev cls_ : List vw_C := [(RX0, TX0, 12), (RX2, TX2, 5), (RX3, TX3, 9), (RX4, TX4, 4), (RX5, TX5, 1), (RX6, TX6, 10), (RX7, TX7, 27)]
def tyl : List FieldType := [.int, .long, .boolean, .object "PageMender$Page"]
abbrev tys_ (X : Ev) : List (ClassId × FieldType) := [(ev_k X 0, .int), (ev_k X 1, .long), (ev_k X 2, .boolean), (ev_k X 3, .object "PageMender$Page")]
def gt : List Cond := lw_tbl.filter goodWord
abbrev Jt : Type := MethodName × ByteArray × Nat × Option FieldType
abbrev jw (J : Jt) : List Cond := .code J.1 J.2.1 J.2.2.1 J.2.2.2 :: gt
abbrev evA (X : Ev) : Nat → Prop := fun q => ev_o X ≤ q
def nls : List Cond := [.methodLinkNest "PageMender" 11 ⟨"PageMender$Field", "<init>", "()V"⟩ "PageMender", .methodLinkNest "PageMender" 40 ⟨"PageMender$Page", "<init>", "()V"⟩ "PageMender", .methodLinkNest "PageMender" 43 ⟨"PageMender$Row", "<init>", "()V"⟩ "PageMender", .methodLinkNest "PageMender$Code" 27 ⟨"PageMender$Row", "<init>", "()V"⟩ "PageMender", .methodLinkNest "PageMender$Mender" 11 ⟨"PageMender$Row", "<init>", "()V"⟩ "PageMender", .methodLinkNest "PageMender$Page" 11 ⟨"PageMender$Row", "<init>", "()V"⟩ "PageMender"]
theorem nls_form : ∀ w ∈ nls, ∃ a i x h, w = Cond.methodLinkNest a i x h := by
  intro w hw
  simp only [nls, List.mem_cons, List.not_mem_nil, or_false] at hw
  rcases hw with rfl | rfl | rfl | rfl | rfl | rfl <;> exact ⟨_, _, _, _, rfl⟩
theorem nls_warm {s U : State} (hW : s.WarmedH U.vm) (h : ∀ w ∈ nls, va_Nw w s) : ∀ w ∈ nls, va_Nw w U := fun w hw => by
  obtain ⟨a, i, x, hh, rfl⟩ := nls_form w hw
  exact va_Nw.warmM hW (h _ hw)
theorem nls_same {s U : State} (hv : s.vm = U.vm) (h : ∀ w ∈ nls, va_Nw w s) : ∀ w ∈ nls, va_Nw w U := fun w hw => by
  obtain ⟨a, i, x, hh, rfl⟩ := nls_form w hw
  exact va_Nw.same rfl hv (h _ hw)
def Ro (X : Ev) (U : State) : Prop := va_T .int (ev_b X) (ev_L X) (fun j => .int (ev_x X j)) (evA X) U U.heap ∧ va_T .int (ev_p X) 11 (fun j => .int (pols j)) (evA X) U U.heap ∧ va_Z "PageMender$Field" "POLYNOMIALS" "[I" (.ref (ev_p X)) (evA X) U U.heap ∧ va_AO "PageMender$Page" U ∧ ∀ w ∈ nls, va_Nw w U
def Qk (X : Ev) (v : Option Value) (M' : Hp) : Array Value → State → Outcome → State → Prop := fun _ st oc t => (oc = .returned (v.map (tv X)) ∧ va_P (ev_D X) cls_ (ws_ X M') t.heap) ∧ va_F (evA X) st t
def Pk (X : Ev) (M : Hp) : State → Prop := fun U => va_P (ev_D X) cls_ (ws_ X M) U.heap ∧ va_K (ev_D X) cls_ (tys_ X) U ∧ U.heap.size = ev_o X + M.length ∧ Ro X U
def Le (M M' : Hp) : Prop := M.length ≤ M'.length ∧ sl M ≤ sl M'
theorem Le.rf (M : Hp) : Le M M := ⟨Nat.le_refl _, Nat.le_refl _⟩
theorem Le.tr {M M1 M2 : Hp} (h : Le M M1) (h2 : Le M1 M2) : Le M M2 := ⟨Nat.le_trans h.1 h2.1, Nat.le_trans h.2 h2.2⟩
/-- a method: from any start with these arguments and this heap it returns, with this answer and this heap; d levels of calls below it -/
def Cl (X : Ev) (d : Nat) (J : Jt) (as : List Value) (M : Hp) (v : Option Value) (M' : Hp) : Prop :=
  Le M M' ∧ Met (ev_l X) J.1 (jw J) { frames := d, cells := M'.length - M.length, slots := sl M' - sl M, locals := 28 * d } (va_Pc (as.map (tv X)) (Pk X M)) (Qk X v M') (M'.length - M.length) (sl M' - sl M) (evA X)
def lq (X : Ev) : Nat → List (Option Value) → List (Nat × Value)
  | _, [] => []
  | k, some v :: r => (k, tv X v) :: lq X (k + 1) r
  | k, none :: r => lq X (k + 1) r
theorem lq_mem (X : Ev) : ∀ (ls : List (Option Value)) (k : Nat) (q : Nat × Value), q ∈ lq X k ls ↔ ∃ i v, ls[i]? = some (some v) ∧ q = (k + i, tv X v)
  | [], k, q => by simp [lq]
  | some a :: r, k, q => by
    simp only [lq, List.mem_cons]
    rw [lq_mem X r (k + 1) q]
    constructor
    · rintro (rfl | ⟨i, v, h, rfl⟩)
      · exact ⟨0, a, by simp, by simp⟩
      · exact ⟨i + 1, v, by simpa using h, by congr 1; omega⟩
    · rintro ⟨i, v, h, rfl⟩
      cases i with
      | zero => left; simp at h; subst h; simp
      | succ i => right; exact ⟨i, v, by simpa using h, by congr 1; omega⟩
  | none :: r, k, q => by
    simp only [lq]
    rw [lq_mem X r (k + 1) q]
    constructor
    · rintro ⟨i, v, h, rfl⟩
      exact ⟨i + 1, v, by simpa using h, by congr 1; omega⟩
    · rintro ⟨i, v, h, rfl⟩
      cases i with
      | zero => simp at h
      | succ i => exact ⟨i, v, by simpa using h, by congr 1; omega⟩
def Ca (X : Ev) (d : Nat) (J : Jt) (M0 : Hp) (p : Program) (R : Room) (s : State) (m : MethodId) (args : Array Value) (meth : Method) (c : Code) : Prop :=
  p.tables.exec = Jvm.exec ∧ c.code = J.2.1 ∧ c.maxLocals = J.2.2.1 ∧ meth.sig.returnType = J.2.2.2 ∧ meth.locks = false ∧ (J.1.name = "<init>" → meth.name = "<init>") ∧ s.vm.findClass J.1.cls = some m.cls ∧ (∀ w ∈ gt, w.before args s = true) ∧ d ≤ R.frames ∧ 28 * d ≤ R.locals ∧ va_K (ev_D X) cls_ (tys_ X) s ∧ Ro X s ∧ s.heap.size = ev_o X + M0.length
def Cb (X : Ev) (J : Jt) (s : State) (M : Hp) (ls : List (Option Value)) (H : Heap) (locs : List Loc) (lsM : Array Slot) : Prop :=
  va_P (ev_D X) cls_ (ws_ X M) H ∧ va_S (evA X) s.heap H locs ∧ lv_has lsM J.2.2.1 (lq X 0 ls)
/-- the code of method J from pc on, with these locals, this stack and this heap: it comes to a return, with this answer and this heap -/
def G (X : Ev) (d : Nat) (J : Jt) (M0 : Hp) (pc : Nat) (ls : List (Option Value)) (st : List Value) (M : Hp) (v : Option Value) (M' : Hp) : Prop :=
  Le M M' ∧ (Le M0 M → ∀ (p : Program) (e : Env) (R : Room) (s : State) (m : MethodId) (args : Array Value) (below : List Frame) (meth : Method) (c : Code) (H : Heap) (locs : List Loc) (lsM : Array Slot), Ca X d J M0 p R s m args meth c → (M'.length - M0.length ≤ R.cells ∧ sl M' - sl M0 ≤ R.slots) → Cb X J s M ls H locs lsM →
    W p (ev_l X) e R s m args below meth c H locs (M.length - M0.length) (sl M - sl M0) (MQ below (Qk X v M') args s (M'.length - M0.length) (sl M' - sl M0) (evA X)) (F0 m pc lsM (st.map (tv X))))
section LOGIC
variable {X : Ev} {d : Nat} {J : Jt} {M0 M M' : Hp} {pc : Nat} {ls : List (Option Value)} {st : List Value} {v : Option Value}
theorem G.by1 {pc' : Nat} {ls' : List (Option Value)} {st' : List Value} (k : G X d J M0 pc' ls' st' M v M')
    (h : ∀ (p : Program) (e : Env) (R : Room) (s : State) (m : MethodId) (args : Array Value) (below : List Frame) (meth : Method) (c : Code) (H : Heap) (locs : List Loc) (lsM : Array Slot) (cells slots : Nat) (Q : State → Prop), Ca X d J M0 p R s m args meth c → Cb X J s M ls H locs lsM →
      (∀ lsM' : Array Slot, lv_has lsM' J.2.2.1 (lq X 0 ls') → W p (ev_l X) e R s m args below meth c H locs cells slots Q (F0 m pc' lsM' (st'.map (tv X)))) → W p (ev_l X) e R s m args below meth c H locs cells slots Q (F0 m pc lsM (st.map (tv X)))) : G X d J M0 pc ls st M v M' :=
  ⟨k.1, fun hL p e R s m args below meth c H locs lsM ha hr hb => h p e R s m args below meth c H locs lsM _ _ _ ha hb (fun lsM' hl' => k.2 hL p e R s m args below meth c H locs lsM' ha hr ⟨hb.1, hb.2.1, hl'⟩)⟩
/-- the heap changes in place -/
theorem G.by2 {M1 : Hp} {pc' : Nat} {st' : List Value} (k : G X d J M0 pc' ls st' M1 v M') (hlen : M1.length = M.length) (hsl : sl M1 = sl M)
    (h : ∀ (p : Program) (e : Env) (R : Room) (s : State) (m : MethodId) (args : Array Value) (below : List Frame) (meth : Method) (c : Code) (H : Heap) (locs : List Loc) (lsM : Array Slot) (cells slots : Nat) (Q : State → Prop), Ca X d J M0 p R s m args meth c → Cb X J s M ls H locs lsM →
      (∀ (H1 : Heap) (locs1 : List Loc), va_P (ev_D X) cls_ (ws_ X M1) H1 → va_S (evA X) s.heap H1 locs1 → W p (ev_l X) e R s m args below meth c H1 locs1 cells slots Q (F0 m pc' lsM (st'.map (tv X)))) → W p (ev_l X) e R s m args below meth c H locs cells slots Q (F0 m pc lsM (st.map (tv X)))) : G X d J M0 pc ls st M v M' := by
  refine ⟨⟨by rw [← hlen]; exact k.1.1, by rw [← hsl]; exact k.1.2⟩, fun hL p e R s m args below meth c H locs lsM ha hr hb => ?_⟩
  refine h p e R s m args below meth c H locs lsM _ _ _ ha hb (fun H1 locs1 hP hS => ?_)
  have := k.2 ⟨by rw [hlen]; exact hL.1, by rw [hsl]; exact hL.2⟩ p e R s m args below meth c H1 locs1 lsM ha hr ⟨hP, hS, hb.2.2⟩
  rw [hlen, hsl] at this
  exact this
theorem lv_keep {X : Ev} {J : Jt} {lsM : Array Slot} {ls : List (Option Value)} (h : lv_has lsM J.2.2.1 (lq X 0 ls)) {i : Nat} {v : Value} (hl : ls[i]? = some (some v)) : lsM[i]? = some (.val (tv X v)) :=
  h.2.2 (i, tv X v) ((lq_mem X ls 0 _).mpr ⟨i, v, hl, by simp⟩)
/-- fewer locals are known -/
theorem x_fewer {ls' : List (Option Value)} (h : ∀ (i : Nat) (w : Value), ls'[i]? = some (some w) → ls[i]? = some (some w)) (k : G X d J M0 pc ls' st M v M') : G X d J M0 pc ls st M v M' :=
  G.by1 k fun p e R s m args below meth c H locs lsM cells slots Q ha hb kk => kk lsM ⟨hb.2.2.1, hb.2.2.2.1, fun q hq => by
    obtain ⟨i, w, h1, rfl⟩ := (lq_mem X ls' 0 q).mp hq
    exact hb.2.2.2.2 _ ((lq_mem X ls 0 _).mpr ⟨i, w, h i w h1, rfl⟩)⟩

theorem x_iload {i : Nat} {x : Int32} (hd : decode J.2.1 pc = .ok (.iload i, 2)) (hl : ls[i]? = some (some (.int x))) (k : G X d J M0 (pc + 2) ls (.int x :: st) M v M') : G X d J M0 pc ls st M v M' :=
  G.by1 k fun p e R s m args below meth c H locs lsM cells slots Q ha hb kk => lv_iload ha.1 ha.2.1 hd (lv_keep hb.2.2 hl) (kk lsM hb.2.2)
theorem x_iload_n {j : Fin 4} {i : Nat} {x : Int32} (hd : decode J.2.1 pc = .ok (.iload_n j, 1)) (hi : (j : Nat) = i) (hl : ls[i]? = some (some (.int x))) (k : G X d J M0 (pc + 1) ls (.int x :: st) M v M') : G X d J M0 pc ls st M v M' :=
  G.by1 k fun p e R s m args below meth c H locs lsM cells slots Q ha hb kk => lv_iload_n ha.1 ha.2.1 hd hi (lv_keep hb.2.2 hl) (kk lsM hb.2.2)
theorem x_lload {i : Nat} {x : Int64} (hd : decode J.2.1 pc = .ok (.lload i, 2)) (hl : ls[i]? = some (some (.long x))) (k : G X d J M0 (pc + 2) ls (.long x :: st) M v M') : G X d J M0 pc ls st M v M' :=
  G.by1 k fun p e R s m args below meth c H locs lsM cells slots Q ha hb kk => lv_lload ha.1 ha.2.1 hd (lv_keep hb.2.2 hl) (kk lsM hb.2.2)
theorem x_lload_n {j : Fin 4} {i : Nat} {x : Int64} (hd : decode J.2.1 pc = .ok (.lload_n j, 1)) (hi : (j : Nat) = i) (hl : ls[i]? = some (some (.long x))) (k : G X d J M0 (pc + 1) ls (.long x :: st) M v M') : G X d J M0 pc ls st M v M' :=
  G.by1 k fun p e R s m args below meth c H locs lsM cells slots Q ha hb kk => lv_lload_n ha.1 ha.2.1 hd hi (lv_keep hb.2.2 hl) (kk lsM hb.2.2)
theorem x_aload {i : Nat} {x : Nat} (hd : decode J.2.1 pc = .ok (.aload i, 2)) (hl : ls[i]? = some (some (.ref x))) (k : G X d J M0 (pc + 2) ls (.ref x :: st) M v M') : G X d J M0 pc ls st M v M' :=
  G.by1 k fun p e R s m args below meth c H locs lsM cells slots Q ha hb kk => lv_aload ha.1 ha.2.1 hd (lv_keep hb.2.2 hl) (kk lsM hb.2.2)
theorem x_aload_n {j : Fin 4} {i : Nat} {x : Nat} (hd : decode J.2.1 pc = .ok (.aload_n j, 1)) (hi : (j : Nat) = i) (hl : ls[i]? = some (some (.ref x))) (k : G X d J M0 (pc + 1) ls (.ref x :: st) M v M') : G X d J M0 pc ls st M v M' :=
  G.by1 k fun p e R s m args below meth c H locs lsM cells slots Q ha hb kk => lv_aload_n ha.1 ha.2.1 hd hi (lv_keep hb.2.2 hl) (kk lsM hb.2.2)
theorem x_aload_s {j : Fin 4} {i : Nat} (hd : decode J.2.1 pc = .ok (.aload_n j, 1)) (hi : (j : Nat) = i) (hl : ls[i]? = some (some (.retAddr 0))) (k : G X d J M0 (pc + 1) ls (.retAddr 0 :: st) M v M') : G X d J M0 pc ls st M v M' :=
  G.by1 k fun p e R s m args below meth c H locs lsM cells slots Q ha hb kk => lv_aload_n ha.1 ha.2.1 hd hi (lv_keep hb.2.2 hl) (kk lsM hb.2.2)
def ok2 (ls : List (Option Value)) : Nat → Bool
  | 0 => true
  | i + 1 => match ls[i]? with
    | some (some w) => w.category == 1
    | _ => true
theorem lq_set1 {X : Ev} {ls : List (Option Value)} {i : Nat} {w : Value} (h2 : ok2 ls i = true) : ∀ q ∈ lq X 0 (ls.set i (some w)), q ∈ ((i, tv X w) :: (lq X 0 ls).filter (fun q => !(q.1 == i) && !(q.1 + 1 == i && q.2.category == 2))) := by
  intro q hq
  obtain ⟨j, u, hj, rfl⟩ := (lq_mem X _ 0 q).mp hq
  by_cases hij : i = j
  · subst hij
    by_cases hl : i < ls.length
    · rw [List.getElem?_set_self hl] at hj
      cases hj
      simp
    · rw [List.getElem?_eq_none (by simp; omega)] at hj
      cases hj
  · rw [List.getElem?_set_ne hij] at hj
    refine List.mem_cons_of_mem _ (List.mem_filter.mpr ⟨(lq_mem X ls 0 _).mpr ⟨j, u, hj, rfl⟩, ?_⟩)
    have h1 : (0 + j == i) = false := by simp; omega
    have h3 : (0 + j + 1 == i && (tv X u).category == 2) = false := by
      by_cases h4 : j + 1 = i
      · subst h4
        simp only [ok2, hj, beq_iff_eq] at h2
        rw [tv_cat, h2]; simp
      · simp; omega
    simp only [h1, h3]; rfl
theorem lq_set2 {X : Ev} {ls : List (Option Value)} {i : Nat} {w : Value} (h2 : ok2 ls i = true) : ∀ q ∈ lq X 0 ((ls.set i (some w)).set (i + 1) none), q ∈ ((i, tv X w) :: (lq X 0 ls).filter (fun q => !(q.1 == i) && (!(q.1 == i + 1) && !(q.1 + 1 == i && q.2.category == 2)))) := by
  intro q hq
  obtain ⟨j, u, hj, rfl⟩ := (lq_mem X _ 0 q).mp hq
  by_cases hij1 : i + 1 = j
  · subst hij1
    by_cases hl : i + 1 < ls.length
    · rw [List.getElem?_set_self (by simpa using hl)] at hj
      cases hj
    · rw [List.getElem?_eq_none (by simp; omega)] at hj
      cases hj
  · rw [List.getElem?_set_ne hij1] at hj
    have h5 := lq_set1 (X := X) (w := w) h2 (0 + j, tv X u) ((lq_mem X _ 0 _).mpr ⟨j, u, hj, rfl⟩)
    rcases List.mem_cons.mp h5 with h | h
    · rw [h]; exact List.mem_cons_self
    · refine List.mem_cons_of_mem _ ?_
      obtain ⟨ha, hb⟩ := List.mem_filter.mp h
      refine List.mem_filter.mpr ⟨ha, ?_⟩
      simp only [Bool.and_eq_true] at hb ⊢
      exact ⟨hb.1, by simp; omega, hb.2⟩
theorem lv_less {ls : Array Slot} {n : Nat} {l l' : List (Nat × Value)} (h : lv_has ls n l) (hs : ∀ q ∈ l', q ∈ l) : lv_has ls n l' := ⟨h.1, h.2.1, fun q hq => h.2.2 q (hs q hq)⟩
theorem x_istore {i : Nat} {x : Int32} {ls' : List (Option Value)} (hd : decode J.2.1 pc = .ok (.istore i, 2)) (hn : i < J.2.2.1) (h2 : ok2 ls i = true) (hs : ls.set i (some (.int x)) = ls') (k : G X d J M0 (pc + 2) ls' st M v M') : G X d J M0 pc ls (.int x :: st) M v M' :=
  G.by1 k fun p e R s m args below meth c H locs lsM cells slots Q ha hb kk => lv_istore ha.1 ha.2.1 hd hb.2.2 hn rfl (fun ls1 h1 => kk ls1 (lv_less h1 (by rw [← hs]; exact lq_set1 h2)))
theorem x_istore_n {j : Fin 4} {i : Nat} {x : Int32} {ls' : List (Option Value)} (hd : decode J.2.1 pc = .ok (.istore_n j, 1)) (hi : (j : Nat) = i) (hn : i < J.2.2.1) (h2 : ok2 ls i = true) (hs : ls.set i (some (.int x)) = ls') (k : G X d J M0 (pc + 1) ls' st M v M') : G X d J M0 pc ls (.int x :: st) M v M' :=
  G.by1 k fun p e R s m args below meth c H locs lsM cells slots Q ha hb kk => lv_istore_n ha.1 ha.2.1 hd hi hb.2.2 hn rfl (fun ls1 h1 => kk ls1 (lv_less h1 (by rw [← hs]; exact lq_set1 h2)))
theorem x_astore {i : Nat} {x : Nat} {ls' : List (Option Value)} (hd : decode J.2.1 pc = .ok (.astore i, 2)) (hn : i < J.2.2.1) (h2 : ok2 ls i = true) (hs : ls.set i (some (.ref x)) = ls') (k : G X d J M0 (pc + 2) ls' st M v M') : G X d J M0 pc ls (.ref x :: st) M v M' :=
  G.by1 k fun p e R s m args below meth c H locs lsM cells slots Q ha hb kk => lv_astore ha.1 ha.2.1 hd hb.2.2 hn rfl (fun ls1 h1 => kk ls1 (lv_less h1 (by rw [← hs]; exact lq_set1 h2)))
theorem x_astore_n {j : Fin 4} {i : Nat} {x : Nat} {ls' : List (Option Value)} (hd : decode J.2.1 pc = .ok (.astore_n j, 1)) (hi : (j : Nat) = i) (hn : i < J.2.2.1) (h2 : ok2 ls i = true) (hs : ls.set i (some (.ref x)) = ls') (k : G X d J M0 (pc + 1) ls' st M v M') : G X d J M0 pc ls (.ref x :: st) M v M' :=
  G.by1 k fun p e R s m args below meth c H locs lsM cells slots Q ha hb kk => lv_astore_n ha.1 ha.2.1 hd hi hb.2.2 hn rfl (fun ls1 h1 => kk ls1 (lv_less h1 (by rw [← hs]; exact lq_set1 h2)))
theorem x_lstore {i : Nat} {x : Int64} {ls' : List (Option Value)} (hd : decode J.2.1 pc = .ok (.lstore i, 2)) (hn : i + 1 < J.2.2.1) (h2 : ok2 ls i = true) (hs : (ls.set i (some (.long x))).set (i + 1) none = ls') (k : G X d J M0 (pc + 2) ls' st M v M') : G X d J M0 pc ls (.long x :: st) M v M' :=
  G.by1 k fun p e R s m args below meth c H locs lsM cells slots Q ha hb kk => lv_lstore ha.1 ha.2.1 hd hb.2.2 hn rfl (fun ls1 h1 => kk ls1 (lv_less h1 (by rw [← hs]; exact lq_set2 h2)))
theorem x_lstore_n {j : Fin 4} {i : Nat} {x : Int64} {ls' : List (Option Value)} (hd : decode J.2.1 pc = .ok (.lstore_n j, 1)) (hi : (j : Nat) = i) (hn : i + 1 < J.2.2.1) (h2 : ok2 ls i = true) (hs : (ls.set i (some (.long x))).set (i + 1) none = ls') (k : G X d J M0 (pc + 1) ls' st M v M') : G X d J M0 pc ls (.long x :: st) M v M' :=
  G.by1 k fun p e R s m args below meth c H locs lsM cells slots Q ha hb kk => lv_lstore_n ha.1 ha.2.1 hd hi hb.2.2 hn rfl (fun ls1 h1 => kk ls1 (lv_less h1 (by rw [← hs]; exact lq_set2 h2)))
theorem x_iinc {i : Nat} {n : Int} {x y : Int32} {ls' : List (Option Value)} (hd : decode J.2.1 pc = .ok (.iinc i n, 3)) (hn : i < J.2.2.1) (h2 : ok2 ls i = true) (hl : ls[i]? = some (some (.int x))) (hv : x + Int32.ofInt n = y) (hs : ls.set i (some (.int y)) = ls') (k : G X d J M0 (pc + 3) ls' st M v M') : G X d J M0 pc ls st M v M' :=
  G.by1 k fun p e R s m args below meth c H locs lsM cells slots Q ha hb kk => by
    obtain ⟨kx, hkx⟩ := List.getElem?_of_mem ((lq_mem X ls 0 (i, .int x)).mpr ⟨i, .int x, hl, by simp [tv]⟩)
    exact lv_iinc ha.1 ha.2.1 hd hb.2.2 hkx hv hn rfl (fun ls1 h1 => kk ls1 (lv_less h1 (by rw [← hs]; exact lq_set1 h2)))
theorem x_iconst {n : Int} {y : Int32} (hd : decode J.2.1 pc = .ok (.iconst n, 1)) (hv : Int32.ofInt n = y) (k : G X d J M0 (pc + 1) ls (.int y :: st) M v M') : G X d J M0 pc ls st M v M' :=
  G.by1 k fun p e R s m args below meth c H locs lsM cells slots Q ha hb kk => lv_iconst ha.1 ha.2.1 hd hv (kk lsM hb.2.2)
theorem x_bipush {n : Int} {y : Int32} (hd : decode J.2.1 pc = .ok (.bipush n, 2)) (hv : (Int8.ofInt n).toInt32 = y) (k : G X d J M0 (pc + 2) ls (.int y :: st) M v M') : G X d J M0 pc ls st M v M' :=
  G.by1 k fun p e R s m args below meth c H locs lsM cells slots Q ha hb kk => lv_bipush ha.1 ha.2.1 hd hv (kk lsM hb.2.2)
theorem x_sipush {n : Int} {y : Int32} (hd : decode J.2.1 pc = .ok (.sipush n, 3)) (hv : (Int16.ofInt n).toInt32 = y) (k : G X d J M0 (pc + 3) ls (.int y :: st) M v M') : G X d J M0 pc ls st M v M' :=
  G.by1 k fun p e R s m args below meth c H locs lsM cells slots Q ha hb kk => lv_sipush ha.1 ha.2.1 hd hv (kk lsM hb.2.2)
theorem x_lconst {n : Fin 2} {y : Int64} (hd : decode J.2.1 pc = .ok (.lconst n, 1)) (hv : Int64.ofNat (n : Nat) = y) (k : G X d J M0 (pc + 1) ls (.long y :: st) M v M') : G X d J M0 pc ls st M v M' :=
  G.by1 k fun p e R s m args below meth c H locs lsM cells slots Q ha hb kk => lv_lconst ha.1 ha.2.1 hd hv (kk lsM hb.2.2)
theorem x_ldc {i : Nat} {y : Int32} (hd : decode J.2.1 pc = .ok (.ldc i, 2)) (hw : Cond.constant J.1.cls i y ∈ gt) (k : G X d J M0 (pc + 2) ls (.int y :: st) M v M') : G X d J M0 pc ls st M v M' :=
  G.by1 k fun p e R s m args below meth c H locs lsM cells slots Q ha hb kk => lv_ldc ha.1 ha.2.1 ha.2.2.2.2.2.2.1 (ha.2.2.2.2.2.2.2.1 _ hw) hd (kk lsM hb.2.2)
theorem x_ldc2 {i : Nat} {y : Int64} (hd : decode J.2.1 pc = .ok (.ldc2_w i, 3)) (hw : Cond.constantLong J.1.cls i y ∈ gt) (k : G X d J M0 (pc + 3) ls (.long y :: st) M v M') : G X d J M0 pc ls st M v M' :=
  G.by1 k fun p e R s m args below meth c H locs lsM cells slots Q ha hb kk => lv_ldc2 ha.1 ha.2.1 ha.2.2.2.2.2.2.1 (ha.2.2.2.2.2.2.2.1 _ hw) hd (kk lsM hb.2.2)
theorem x_iadd {x y : Int32} (hd : decode J.2.1 pc = .ok (.iadd, 1)) (k : G X d J M0 (pc + 1) ls (.int (x + y) :: st) M v M') : G X d J M0 pc ls (.int y :: .int x :: st) M v M' :=
  G.by1 k fun p e R s m args below meth c H locs lsM cells slots Q ha hb kk => lv_iadd ha.1 ha.2.1 hd (kk lsM hb.2.2)
theorem x_isub {x y : Int32} (hd : decode J.2.1 pc = .ok (.isub, 1)) (k : G X d J M0 (pc + 1) ls (.int (x - y) :: st) M v M') : G X d J M0 pc ls (.int y :: .int x :: st) M v M' :=
  G.by1 k fun p e R s m args below meth c H locs lsM cells slots Q ha hb kk => lv_isub ha.1 ha.2.1 hd (kk lsM hb.2.2)
theorem x_imul {x y : Int32} (hd : decode J.2.1 pc = .ok (.imul, 1)) (k : G X d J M0 (pc + 1) ls (.int (x * y) :: st) M v M') : G X d J M0 pc ls (.int y :: .int x :: st) M v M' :=
  G.by1 k fun p e R s m args below meth c H locs lsM cells slots Q ha hb kk => lv_imul ha.1 ha.2.1 hd (kk lsM hb.2.2)
theorem x_iand {x y : Int32} (hd : decode J.2.1 pc = .ok (.iand, 1)) (k : G X d J M0 (pc + 1) ls (.int (x &&& y) :: st) M v M') : G X d J M0 pc ls (.int y :: .int x :: st) M v M' :=
  G.by1 k fun p e R s m args below meth c H locs lsM cells slots Q ha hb kk => lv_iand ha.1 ha.2.1 hd (kk lsM hb.2.2)
theorem x_ior {x y : Int32} (hd : decode J.2.1 pc = .ok (.ior, 1)) (k : G X d J M0 (pc + 1) ls (.int (x ||| y) :: st) M v M') : G X d J M0 pc ls (.int y :: .int x :: st) M v M' :=
  G.by1 k fun p e R s m args below meth c H locs lsM cells slots Q ha hb kk => lv_ior ha.1 ha.2.1 hd (kk lsM hb.2.2)
theorem x_ixor {x y : Int32} (hd : decode J.2.1 pc = .ok (.ixor, 1)) (k : G X d J M0 (pc + 1) ls (.int (x ^^^ y) :: st) M v M') : G X d J M0 pc ls (.int y :: .int x :: st) M v M' :=
  G.by1 k fun p e R s m args below meth c H locs lsM cells slots Q ha hb kk => lv_ixor ha.1 ha.2.1 hd (kk lsM hb.2.2)
theorem x_ishl {x y : Int32} (hd : decode J.2.1 pc = .ok (.ishl, 1)) (k : G X d J M0 (pc + 1) ls (.int (x <<< (y &&& 31)) :: st) M v M') : G X d J M0 pc ls (.int y :: .int x :: st) M v M' :=
  G.by1 k fun p e R s m args below meth c H locs lsM cells slots Q ha hb kk => lv_ishl ha.1 ha.2.1 hd (kk lsM hb.2.2)
theorem x_ishr {x y : Int32} (hd : decode J.2.1 pc = .ok (.ishr, 1)) (k : G X d J M0 (pc + 1) ls (.int (x >>> (y &&& 31)) :: st) M v M') : G X d J M0 pc ls (.int y :: .int x :: st) M v M' :=
  G.by1 k fun p e R s m args below meth c H locs lsM cells slots Q ha hb kk => lv_ishr ha.1 ha.2.1 hd (kk lsM hb.2.2)
theorem x_idiv {x y : Int32} (hd : decode J.2.1 pc = .ok (.idiv, 1)) (hne : ¬ y = 0) (k : G X d J M0 (pc + 1) ls (.int (x / y) :: st) M v M') : G X d J M0 pc ls (.int y :: .int x :: st) M v M' :=
  G.by1 k fun p e R s m args below meth c H locs lsM cells slots Q ha hb kk => lv_idiv ha.1 ha.2.1 hd hne (kk lsM hb.2.2)
theorem x_irem {x y : Int32} (hd : decode J.2.1 pc = .ok (.irem, 1)) (hne : ¬ y = 0) (k : G X d J M0 (pc + 1) ls (.int (x - x / y * y) :: st) M v M') : G X d J M0 pc ls (.int y :: .int x :: st) M v M' :=
  G.by1 k fun p e R s m args below meth c H locs lsM cells slots Q ha hb kk => lv_irem ha.1 ha.2.1 hd hne (kk lsM hb.2.2)
theorem x_ladd {x y : Int64} (hd : decode J.2.1 pc = .ok (.ladd, 1)) (k : G X d J M0 (pc + 1) ls (.long (x + y) :: st) M v M') : G X d J M0 pc ls (.long y :: .long x :: st) M v M' :=
  G.by1 k fun p e R s m args below meth c H locs lsM cells slots Q ha hb kk => lv_ladd ha.1 ha.2.1 hd (kk lsM hb.2.2)
theorem x_lsub {x y : Int64} (hd : decode J.2.1 pc = .ok (.lsub, 1)) (k : G X d J M0 (pc + 1) ls (.long (x - y) :: st) M v M') : G X d J M0 pc ls (.long y :: .long x :: st) M v M' :=
  G.by1 k fun p e R s m args below meth c H locs lsM cells slots Q ha hb kk => lv_lsub ha.1 ha.2.1 hd (kk lsM hb.2.2)
theorem x_lmul {x y : Int64} (hd : decode J.2.1 pc = .ok (.lmul, 1)) (k : G X d J M0 (pc + 1) ls (.long (x * y) :: st) M v M') : G X d J M0 pc ls (.long y :: .long x :: st) M v M' :=
  G.by1 k fun p e R s m args below meth c H locs lsM cells slots Q ha hb kk => lv_lmul ha.1 ha.2.1 hd (kk lsM hb.2.2)
theorem x_land {x y : Int64} (hd : decode J.2.1 pc = .ok (.land, 1)) (k : G X d J M0 (pc + 1) ls (.long (x &&& y) :: st) M v M') : G X d J M0 pc ls (.long y :: .long x :: st) M v M' :=
  G.by1 k fun p e R s m args below meth c H locs lsM cells slots Q ha hb kk => lv_land ha.1 ha.2.1 hd (kk lsM hb.2.2)
theorem x_lor {x y : Int64} (hd : decode J.2.1 pc = .ok (.lor, 1)) (k : G X d J M0 (pc + 1) ls (.long (x ||| y) :: st) M v M') : G X d J M0 pc ls (.long y :: .long x :: st) M v M' :=
  G.by1 k fun p e R s m args below meth c H locs lsM cells slots Q ha hb kk => lv_lor ha.1 ha.2.1 hd (kk lsM hb.2.2)
theorem x_lxor {x y : Int64} (hd : decode J.2.1 pc = .ok (.lxor, 1)) (k : G X d J M0 (pc + 1) ls (.long (x ^^^ y) :: st) M v M') : G X d J M0 pc ls (.long y :: .long x :: st) M v M' :=
  G.by1 k fun p e R s m args below meth c H locs lsM cells slots Q ha hb kk => lv_lxor ha.1 ha.2.1 hd (kk lsM hb.2.2)
theorem x_lrem {x y : Int64} (hd : decode J.2.1 pc = .ok (.lrem, 1)) (hne : ¬ y = 0) (k : G X d J M0 (pc + 1) ls (.long (x - x / y * y) :: st) M v M') : G X d J M0 pc ls (.long y :: .long x :: st) M v M' :=
  G.by1 k fun p e R s m args below meth c H locs lsM cells slots Q ha hb kk => lv_lrem ha.1 ha.2.1 hd hne (kk lsM hb.2.2)
theorem x_lneg {x : Int64} (hd : decode J.2.1 pc = .ok (.lneg, 1)) (k : G X d J M0 (pc + 1) ls (.long (-x) :: st) M v M') : G X d J M0 pc ls (.long x :: st) M v M' :=
  G.by1 k fun p e R s m args below meth c H locs lsM cells slots Q ha hb kk => lv_lneg ha.1 ha.2.1 hd (kk lsM hb.2.2)
theorem x_i2l {x : Int32} (hd : decode J.2.1 pc = .ok (.i2l, 1)) (k : G X d J M0 (pc + 1) ls (.long x.toInt64 :: st) M v M') : G X d J M0 pc ls (.int x :: st) M v M' :=
  G.by1 k fun p e R s m args below meth c H locs lsM cells slots Q ha hb kk => lv_i2l ha.1 ha.2.1 hd rfl (kk lsM hb.2.2)
theorem x_l2i {x : Int64} (hd : decode J.2.1 pc = .ok (.l2i, 1)) (k : G X d J M0 (pc + 1) ls (.int x.toInt32 :: st) M v M') : G X d J M0 pc ls (.long x :: st) M v M' :=
  G.by1 k fun p e R s m args below meth c H locs lsM cells slots Q ha hb kk => lv_l2i ha.1 ha.2.1 hd rfl (kk lsM hb.2.2)
theorem x_lcmp {x y : Int64} (hd : decode J.2.1 pc = .ok (.lcmp, 1)) (k : G X d J M0 (pc + 1) ls (.int (lg_cmp x y) :: st) M v M') : G X d J M0 pc ls (.long y :: .long x :: st) M v M' :=
  G.by1 k fun p e R s m args below meth c H locs lsM cells slots Q ha hb kk => W.lcmp ha.1 ha.2.1 hd (kk lsM hb.2.2)
theorem x_lushr {x : Int64} {y : Int32} (hd : decode J.2.1 pc = .ok (.lushr, 1)) (k : G X d J M0 (pc + 1) ls (.long ((x.toUInt64 >>> (y.toInt64.toUInt64 &&& Int64.toUInt64 63)).toInt64) :: st) M v M') : G X d J M0 pc ls (.int y :: .long x :: st) M v M' :=
  G.by1 k fun p e R s m args below meth c H locs lsM cells slots Q ha hb kk => lv_lushr ha.1 ha.2.1 hd rfl (kk lsM hb.2.2)
theorem x_lshl {x : Int64} {y : Int32} (hd : decode J.2.1 pc = .ok (.lshl, 1)) (k : G X d J M0 (pc + 1) ls (.long (x <<< (y.toInt64 &&& 63)) :: st) M v M') : G X d J M0 pc ls (.int y :: .long x :: st) M v M' :=
  G.by1 k fun p e R s m args below meth c H locs lsM cells slots Q ha hb kk => lv_lshl ha.1 ha.2.1 hd rfl (kk lsM hb.2.2)
theorem x_lshr {x : Int64} {y : Int32} (hd : decode J.2.1 pc = .ok (.lshr, 1)) (k : G X d J M0 (pc + 1) ls (.long (x >>> (y.toInt64 &&& 63)) :: st) M v M') : G X d J M0 pc ls (.int y :: .long x :: st) M v M' :=
  G.by1 k fun p e R s m args below meth c H locs lsM cells slots Q ha hb kk => lv_lshr ha.1 ha.2.1 hd rfl (kk lsM hb.2.2)
theorem x_dup {a : Value} (hd : decode J.2.1 pc = .ok (.dup, 1)) (hc : a.category = 1) (k : G X d J M0 (pc + 1) ls (a :: a :: st) M v M') : G X d J M0 pc ls (a :: st) M v M' :=
  G.by1 k fun p e R s m args below meth c H locs lsM cells slots Q ha hb kk => lv_dup ha.1 ha.2.1 hd ((tv_cat X a).trans hc) (kk lsM hb.2.2)
theorem x_pop {a : Value} (hd : decode J.2.1 pc = .ok (.pop, 1)) (hc : a.category = 1) (k : G X d J M0 (pc + 1) ls st M v M') : G X d J M0 pc ls (a :: st) M v M' :=
  G.by1 k fun p e R s m args below meth c H locs lsM cells slots Q ha hb kk => lv_pop ha.1 ha.2.1 hd ((tv_cat X a).trans hc) (kk lsM hb.2.2)
theorem x_dup2 {a b : Value} (hd : decode J.2.1 pc = .ok (.dup2, 1)) (hc : a.category = 1) (hc2 : b.category = 1) (k : G X d J M0 (pc + 1) ls (a :: b :: a :: b :: st) M v M') : G X d J M0 pc ls (a :: b :: st) M v M' :=
  G.by1 k fun p e R s m args below meth c H locs lsM cells slots Q ha hb kk => lv_dup2_11 ha.1 ha.2.1 hd ((tv_cat X a).trans hc) ((tv_cat X b).trans hc2) (kk lsM hb.2.2)
theorem x_goto {off : Int} {tgt : Nat} (hd : decode J.2.1 pc = .ok (.goto off, 3)) (ht : (pc : Int) + off = (tgt : Int)) (k : G X d J M0 tgt ls st M v M') : G X d J M0 pc ls st M v M' :=
  G.by1 k fun p e R s m args below meth c H locs lsM cells slots Q ha hb kk => lv_goto ha.1 ha.2.1 hd ht (kk lsM hb.2.2)
theorem x_if_eq {x : Int32} {off : Int} {tgt : Nat} (hd : decode J.2.1 pc = .ok (.ifCond .eq off, 3)) (ht : (pc : Int) + off = (tgt : Int)) (kt : x = 0 → G X d J M0 tgt ls st M v M') (kf : ¬ x = 0 → G X d J M0 (pc + 3) ls st M v M') : G X d J M0 pc ls (.int x :: st) M v M' := by
  by_cases hc : x = 0
  · exact G.by1 (kt hc) fun p e R s m args below meth c H locs lsM cells slots Q ha hb kk => lv_if_eq ha.1 ha.2.1 hd ht (fun _ => kk lsM hb.2.2) (fun h => absurd hc (by first | exact h | exact fun z => z h))
  · have hc' : ¬ x = 0 := by first | exact hc | exact Classical.byContradiction hc
    exact G.by1 (kf hc') fun p e R s m args below meth c H locs lsM cells slots Q ha hb kk => lv_if_eq ha.1 ha.2.1 hd ht (fun h => absurd h hc) (fun _ => kk lsM hb.2.2)
theorem x_icmp_eq {x y : Int32} {off : Int} {tgt : Nat} (hd : decode J.2.1 pc = .ok (.if_icmp .eq off, 3)) (ht : (pc : Int) + off = (tgt : Int)) (kt : x = y → G X d J M0 tgt ls st M v M') (kf : ¬ x = y → G X d J M0 (pc + 3) ls st M v M') : G X d J M0 pc ls (.int y :: .int x :: st) M v M' := by
  by_cases hc : x = y
  · exact G.by1 (kt hc) fun p e R s m args below meth c H locs lsM cells slots Q ha hb kk => lv_icmp_eq ha.1 ha.2.1 hd ht (fun _ => kk lsM hb.2.2) (fun h => absurd hc (by first | exact h | exact fun z => z h))
  · have hc' : ¬ x = y := by first | exact hc | exact Classical.byContradiction hc
    exact G.by1 (kf hc') fun p e R s m args below meth c H locs lsM cells slots Q ha hb kk => lv_icmp_eq ha.1 ha.2.1 hd ht (fun h => absurd h hc) (fun _ => kk lsM hb.2.2)
theorem x_if_ne {x : Int32} {off : Int} {tgt : Nat} (hd : decode J.2.1 pc = .ok (.ifCond .ne off, 3)) (ht : (pc : Int) + off = (tgt : Int)) (kt : ¬ x = 0 → G X d J M0 tgt ls st M v M') (kf : x = 0 → G X d J M0 (pc + 3) ls st M v M') : G X d J M0 pc ls (.int x :: st) M v M' := by
  by_cases hc : ¬ x = 0
  · exact G.by1 (kt hc) fun p e R s m args below meth c H locs lsM cells slots Q ha hb kk => lv_if_ne ha.1 ha.2.1 hd ht (fun _ => kk lsM hb.2.2) (fun h => absurd hc (by first | exact h | exact fun z => z h))
  · have hc' : x = 0 := by first | exact hc | exact Classical.byContradiction hc
    exact G.by1 (kf hc') fun p e R s m args below meth c H locs lsM cells slots Q ha hb kk => lv_if_ne ha.1 ha.2.1 hd ht (fun h => absurd h hc) (fun _ => kk lsM hb.2.2)
theorem x_icmp_ne {x y : Int32} {off : Int} {tgt : Nat} (hd : decode J.2.1 pc = .ok (.if_icmp .ne off, 3)) (ht : (pc : Int) + off = (tgt : Int)) (kt : ¬ x = y → G X d J M0 tgt ls st M v M') (kf : x = y → G X d J M0 (pc + 3) ls st M v M') : G X d J M0 pc ls (.int y :: .int x :: st) M v M' := by
  by_cases hc : ¬ x = y
  · exact G.by1 (kt hc) fun p e R s m args below meth c H locs lsM cells slots Q ha hb kk => lv_icmp_ne ha.1 ha.2.1 hd ht (fun _ => kk lsM hb.2.2) (fun h => absurd hc (by first | exact h | exact fun z => z h))
  · have hc' : x = y := by first | exact hc | exact Classical.byContradiction hc
    exact G.by1 (kf hc') fun p e R s m args below meth c H locs lsM cells slots Q ha hb kk => lv_icmp_ne ha.1 ha.2.1 hd ht (fun h => absurd h hc) (fun _ => kk lsM hb.2.2)
theorem x_if_lt {x : Int32} {off : Int} {tgt : Nat} (hd : decode J.2.1 pc = .ok (.ifCond .lt off, 3)) (ht : (pc : Int) + off = (tgt : Int)) (kt : x < 0 → G X d J M0 tgt ls st M v M') (kf : ¬ x < 0 → G X d J M0 (pc + 3) ls st M v M') : G X d J M0 pc ls (.int x :: st) M v M' := by
  by_cases hc : x < 0
  · exact G.by1 (kt hc) fun p e R s m args below meth c H locs lsM cells slots Q ha hb kk => lv_if_lt ha.1 ha.2.1 hd ht (fun _ => kk lsM hb.2.2) (fun h => absurd hc (by first | exact h | exact fun z => z h))
  · have hc' : ¬ x < 0 := by first | exact hc | exact Classical.byContradiction hc
    exact G.by1 (kf hc') fun p e R s m args below meth c H locs lsM cells slots Q ha hb kk => lv_if_lt ha.1 ha.2.1 hd ht (fun h => absurd h hc) (fun _ => kk lsM hb.2.2)
theorem x_icmp_lt {x y : Int32} {off : Int} {tgt : Nat} (hd : decode J.2.1 pc = .ok (.if_icmp .lt off, 3)) (ht : (pc : Int) + off = (tgt : Int)) (kt : x < y → G X d J M0 tgt ls st M v M') (kf : ¬ x < y → G X d J M0 (pc + 3) ls st M v M') : G X d J M0 pc ls (.int y :: .int x :: st) M v M' := by
  by_cases hc : x < y
  · exact G.by1 (kt hc) fun p e R s m args below meth c H locs lsM cells slots Q ha hb kk => lv_icmp_lt ha.1 ha.2.1 hd ht (fun _ => kk lsM hb.2.2) (fun h => absurd hc (by first | exact h | exact fun z => z h))
  · have hc' : ¬ x < y := by first | exact hc | exact Classical.byContradiction hc
    exact G.by1 (kf hc') fun p e R s m args below meth c H locs lsM cells slots Q ha hb kk => lv_icmp_lt ha.1 ha.2.1 hd ht (fun h => absurd h hc) (fun _ => kk lsM hb.2.2)
theorem x_if_ge {x : Int32} {off : Int} {tgt : Nat} (hd : decode J.2.1 pc = .ok (.ifCond .ge off, 3)) (ht : (pc : Int) + off = (tgt : Int)) (kt : 0 ≤ x → G X d J M0 tgt ls st M v M') (kf : ¬ 0 ≤ x → G X d J M0 (pc + 3) ls st M v M') : G X d J M0 pc ls (.int x :: st) M v M' := by
  by_cases hc : 0 ≤ x
  · exact G.by1 (kt hc) fun p e R s m args below meth c H locs lsM cells slots Q ha hb kk => lv_if_ge ha.1 ha.2.1 hd ht (fun _ => kk lsM hb.2.2) (fun h => absurd hc (by first | exact h | exact fun z => z h))
  · have hc' : ¬ 0 ≤ x := by first | exact hc | exact Classical.byContradiction hc
    exact G.by1 (kf hc') fun p e R s m args below meth c H locs lsM cells slots Q ha hb kk => lv_if_ge ha.1 ha.2.1 hd ht (fun h => absurd h hc) (fun _ => kk lsM hb.2.2)
theorem x_icmp_ge {x y : Int32} {off : Int} {tgt : Nat} (hd : decode J.2.1 pc = .ok (.if_icmp .ge off, 3)) (ht : (pc : Int) + off = (tgt : Int)) (kt : y ≤ x → G X d J M0 tgt ls st M v M') (kf : ¬ y ≤ x → G X d J M0 (pc + 3) ls st M v M') : G X d J M0 pc ls (.int y :: .int x :: st) M v M' := by
  by_cases hc : y ≤ x
  · exact G.by1 (kt hc) fun p e R s m args below meth c H locs lsM cells slots Q ha hb kk => lv_icmp_ge ha.1 ha.2.1 hd ht (fun _ => kk lsM hb.2.2) (fun h => absurd hc (by first | exact h | exact fun z => z h))
  · have hc' : ¬ y ≤ x := by first | exact hc | exact Classical.byContradiction hc
    exact G.by1 (kf hc') fun p e R s m args below meth c H locs lsM cells slots Q ha hb kk => lv_icmp_ge ha.1 ha.2.1 hd ht (fun h => absurd h hc) (fun _ => kk lsM hb.2.2)
theorem x_if_gt {x : Int32} {off : Int} {tgt : Nat} (hd : decode J.2.1 pc = .ok (.ifCond .gt off, 3)) (ht : (pc : Int) + off = (tgt : Int)) (kt : 0 < x → G X d J M0 tgt ls st M v M') (kf : ¬ 0 < x → G X d J M0 (pc + 3) ls st M v M') : G X d J M0 pc ls (.int x :: st) M v M' := by
  by_cases hc : 0 < x
  · exact G.by1 (kt hc) fun p e R s m args below meth c H locs lsM cells slots Q ha hb kk => lv_if_gt ha.1 ha.2.1 hd ht (fun _ => kk lsM hb.2.2) (fun h => absurd hc (by first | exact h | exact fun z => z h))
  · have hc' : ¬ 0 < x := by first | exact hc | exact Classical.byContradiction hc
    exact G.by1 (kf hc') fun p e R s m args below meth c H locs lsM cells slots Q ha hb kk => lv_if_gt ha.1 ha.2.1 hd ht (fun h => absurd h hc) (fun _ => kk lsM hb.2.2)
theorem x_icmp_gt {x y : Int32} {off : Int} {tgt : Nat} (hd : decode J.2.1 pc = .ok (.if_icmp .gt off, 3)) (ht : (pc : Int) + off = (tgt : Int)) (kt : y < x → G X d J M0 tgt ls st M v M') (kf : ¬ y < x → G X d J M0 (pc + 3) ls st M v M') : G X d J M0 pc ls (.int y :: .int x :: st) M v M' := by
  by_cases hc : y < x
  · exact G.by1 (kt hc) fun p e R s m args below meth c H locs lsM cells slots Q ha hb kk => lv_icmp_gt ha.1 ha.2.1 hd ht (fun _ => kk lsM hb.2.2) (fun h => absurd hc (by first | exact h | exact fun z => z h))
  · have hc' : ¬ y < x := by first | exact hc | exact Classical.byContradiction hc
    exact G.by1 (kf hc') fun p e R s m args below meth c H locs lsM cells slots Q ha hb kk => lv_icmp_gt ha.1 ha.2.1 hd ht (fun h => absurd h hc) (fun _ => kk lsM hb.2.2)
theorem x_if_le {x : Int32} {off : Int} {tgt : Nat} (hd : decode J.2.1 pc = .ok (.ifCond .le off, 3)) (ht : (pc : Int) + off = (tgt : Int)) (kt : x ≤ 0 → G X d J M0 tgt ls st M v M') (kf : ¬ x ≤ 0 → G X d J M0 (pc + 3) ls st M v M') : G X d J M0 pc ls (.int x :: st) M v M' := by
  by_cases hc : x ≤ 0
  · exact G.by1 (kt hc) fun p e R s m args below meth c H locs lsM cells slots Q ha hb kk => lv_if_le ha.1 ha.2.1 hd ht (fun _ => kk lsM hb.2.2) (fun h => absurd hc (by first | exact h | exact fun z => z h))
  · have hc' : ¬ x ≤ 0 := by first | exact hc | exact Classical.byContradiction hc
    exact G.by1 (kf hc') fun p e R s m args below meth c H locs lsM cells slots Q ha hb kk => lv_if_le ha.1 ha.2.1 hd ht (fun h => absurd h hc) (fun _ => kk lsM hb.2.2)
theorem x_icmp_le {x y : Int32} {off : Int} {tgt : Nat} (hd : decode J.2.1 pc = .ok (.if_icmp .le off, 3)) (ht : (pc : Int) + off = (tgt : Int)) (kt : x ≤ y → G X d J M0 tgt ls st M v M') (kf : ¬ x ≤ y → G X d J M0 (pc + 3) ls st M v M') : G X d J M0 pc ls (.int y :: .int x :: st) M v M' := by
  by_cases hc : x ≤ y
  · exact G.by1 (kt hc) fun p e R s m args below meth c H locs lsM cells slots Q ha hb kk => lv_icmp_le ha.1 ha.2.1 hd ht (fun _ => kk lsM hb.2.2) (fun h => absurd hc (by first | exact h | exact fun z => z h))
  · have hc' : ¬ x ≤ y := by first | exact hc | exact Classical.byContradiction hc
    exact G.by1 (kf hc') fun p e R s m args below meth c H locs lsM cells slots Q ha hb kk => lv_icmp_le ha.1 ha.2.1 hd ht (fun h => absurd h hc) (fun _ => kk lsM hb.2.2)
theorem x_tabIn {dflt lo hi : Int} {offs : Array Int} {len : Nat} {x : Int32} {off : Int} {tgt : Nat} (hd : decode J.2.1 pc = .ok (.tableswitch dflt lo hi offs, len)) (h1 : ¬ x.toInt < lo) (h2 : ¬ hi < x.toInt) (ho : offs[(x.toInt - lo).toNat]? = some off) (ht : (pc : Int) + off = (tgt : Int)) (k : G X d J M0 tgt ls st M v M') : G X d J M0 pc ls (.int x :: st) M v M' :=
  G.by1 k fun p e R s m args below meth c H locs lsM cells slots Q ha hb kk => lv_tableIn ha.1 ha.2.1 hd h1 h2 ho ht (kk lsM hb.2.2)
theorem x_tabOut {dflt lo hi : Int} {offs : Array Int} {len : Nat} {x : Int32} {tgt : Nat} (hd : decode J.2.1 pc = .ok (.tableswitch dflt lo hi offs, len)) (h : x.toInt < lo ∨ hi < x.toInt) (ht : (pc : Int) + dflt = (tgt : Int)) (k : G X d J M0 tgt ls st M v M') : G X d J M0 pc ls (.int x :: st) M v M' :=
  G.by1 k fun p e R s m args below meth c H locs lsM cells slots Q ha hb kk => lv_tableOut ha.1 ha.2.1 hd h ht (kk lsM hb.2.2)
end LOGIC
