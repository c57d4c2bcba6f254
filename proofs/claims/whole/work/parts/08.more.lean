/-! more rows of the logic, and small laws of numbers -/
section MORE
variable {X : Ev} {d : Nat} {J : Jt} {M0 M M' : Hp} {pc : Nat} {ls : List (Option Value)} {st : List Value} {v : Option Value}
theorem x_casti {x y : Int32} (h : x = y) (k : G X d J M0 pc ls (.int y :: st) M v M') : G X d J M0 pc ls (.int x :: st) M v M' := by subst h; exact k
theorem x_castl {x y : Int64} (h : x = y) (k : G X d J M0 pc ls (.long y :: st) M v M') : G X d J M0 pc ls (.long x :: st) M v M' := by subst h; exact k
theorem x_ireturn_eq {x y : Int32} (hd : decode J.2.1 pc = .ok (.ireturn, 1)) (hr : J.2.2.2 = some .int) (h : x = y) : G X d J M0 pc ls [.int x] M (some (.int y)) M := by subst h; exact x_ireturn hd hr
theorem x_zreturn_eq {x : Int32} {b : Bool} (hd : decode J.2.1 pc = .ok (.ireturn, 1)) (hr : J.2.2.2 = some .boolean) (h : x = if b then 1 else 0) : G X d J M0 pc ls [.int x] M (some (.int (if b then 1 else 0))) M := by
  subst h; exact x_zreturn hd hr (by cases b <;> rfl)
theorem G.hp {M1 : Hp} (h : M = M1) (k : G X d J M0 pc ls st M1 v M') : G X d J M0 pc ls st M v M' := by subst h; exact k
end MORE
theorem gs {M : Hp} {p : Nat} {c c' : Cel} (h : M[p]? = some c) : (M.set p c')[p]? = some c' := List.getElem?_set_self (List.getElem?_eq_some_iff.mp h).1
theorem gn {M : Hp} {p q : Nat} {c c' : Cel} (h : M[p]? = some c) (hn : q ≠ p) : (M.set q c')[p]? = some c := by rw [List.getElem?_set_ne hn]; exact h
theorem ss0 {M : Hp} {p : Nat} {a c : Cel} : (M.set p a).set p c = M.set p c := List.set_set ..
theorem ss1 {M : Hp} {p q : Nat} {a b c : Cel} (h : p ≠ q) : ((M.set p a).set q b).set p c = (M.set p c).set q b := by rw [List.set_comm _ _ (Ne.symm h), List.set_set]
theorem ss2 {M : Hp} {p q r : Nat} {a b e c : Cel} (h : p ≠ q) (h2 : p ≠ r) : (((M.set p a).set q b).set r e).set p c = ((M.set p c).set q b).set r e := by rw [List.set_comm _ _ (Ne.symm h2), ss1 h]
theorem ss3 {M : Hp} {p q r u : Nat} {a b e f c : Cel} (h : p ≠ q) (h2 : p ≠ r) (h3 : p ≠ u) : ((((M.set p a).set q b).set r e).set u f).set p c = (((M.set p c).set q b).set r e).set u f := by rw [List.set_comm _ _ (Ne.symm h3), ss2 h h2]
theorem ii_add (i n : Nat) : nI i + Int32.ofInt n = nI (i + n) := by rw [← nI_add]; rfl
theorem bI {x : Bool} : (if x then (1 : Int32) else 0) = if x then nI 1 else nI 0 := by cases x <;> rfl
