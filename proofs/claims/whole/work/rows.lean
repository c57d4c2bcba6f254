section
-- ===== PART A: goes FIRST, ahead of the names: the tables' words, and 'selects' of the private methods out of them =====
/-- a private method of a class that the tables say can be made, by its rows of tables_1 -/
def lw_okq (q : MethodName × Nat) : Prop := (q.1.cls ≠ "java/lang/invoke/MethodHandle" ∧ q.1.cls ≠ "java/lang/invoke/VarHandle") ∧ Cond.instantiable q.1.cls q.2 ∈ tables_1 ∧ Cond.privateMethod q.1 ∈ tables_1 ∧ Cond.instanceMethod q.1 ∈ tables_1
theorem lw_p0 : lw_okq (⟨"PageMender$Code", "makePolynomial", "()V"⟩, 12) := ⟨⟨by decide +kernel, by decide +kernel⟩, List.mem_of_getElem? (i := 54) (by decide +kernel), List.mem_of_getElem? (i := 254) (by decide +kernel), List.mem_of_getElem? (i := 255) (by decide +kernel)⟩
theorem lw_p1 : lw_okq (⟨"PageMender$Field", "multiplyByRoot", "(II)V"⟩, 5) := ⟨⟨by decide +kernel, by decide +kernel⟩, List.mem_of_getElem? (i := 22) (by decide +kernel), List.mem_of_getElem? (i := 269) (by decide +kernel), List.mem_of_getElem? (i := 270) (by decide +kernel)⟩
theorem lw_p2 : lw_okq (⟨"PageMender$Code", "multiplyBy", "(II)V"⟩, 12) := ⟨⟨by decide +kernel, by decide +kernel⟩, List.mem_of_getElem? (i := 54) (by decide +kernel), List.mem_of_getElem? (i := 279) (by decide +kernel), List.mem_of_getElem? (i := 280) (by decide +kernel)⟩
theorem lw_p3 : lw_okq (⟨"PageMender$Code", "makeSteps", "()V"⟩, 12) := ⟨⟨by decide +kernel, by decide +kernel⟩, List.mem_of_getElem? (i := 54) (by decide +kernel), List.mem_of_getElem? (i := 299) (by decide +kernel), List.mem_of_getElem? (i := 300) (by decide +kernel)⟩
theorem lw_p4 : lw_okq (⟨"PageMender$Code", "loadPolynomial", "()V"⟩, 12) := ⟨⟨by decide +kernel, by decide +kernel⟩, List.mem_of_getElem? (i := 54) (by decide +kernel), List.mem_of_getElem? (i := 303) (by decide +kernel), List.mem_of_getElem? (i := 304) (by decide +kernel)⟩
theorem lw_p5 : lw_okq (⟨"PageMender", "hasByte", "(I)Z"⟩, 10) := ⟨⟨by decide +kernel, by decide +kernel⟩, List.mem_of_getElem? (i := 14) (by decide +kernel), List.mem_of_getElem? (i := 364) (by decide +kernel), List.mem_of_getElem? (i := 365) (by decide +kernel)⟩
theorem lw_p6 : lw_okq (⟨"PageMender$Code", "takeData", "(LPageMender$Row;)V"⟩, 12) := ⟨⟨by decide +kernel, by decide +kernel⟩, List.mem_of_getElem? (i := 54) (by decide +kernel), List.mem_of_getElem? (i := 394) (by decide +kernel), List.mem_of_getElem? (i := 395) (by decide +kernel)⟩
theorem lw_p7 : lw_okq (⟨"PageMender$Code", "registerAt", "(I)I"⟩, 12) := ⟨⟨by decide +kernel, by decide +kernel⟩, List.mem_of_getElem? (i := 54) (by decide +kernel), List.mem_of_getElem? (i := 399) (by decide +kernel), List.mem_of_getElem? (i := 400) (by decide +kernel)⟩
theorem lw_p8 : lw_okq (⟨"PageMender", "hasPage", "(I)Z"⟩, 10) := ⟨⟨by decide +kernel, by decide +kernel⟩, List.mem_of_getElem? (i := 14) (by decide +kernel), List.mem_of_getElem? (i := 412) (by decide +kernel), List.mem_of_getElem? (i := 413) (by decide +kernel)⟩
theorem lw_p9 : lw_okq (⟨"PageMender", "hasBit", "(I)Z"⟩, 10) := ⟨⟨by decide +kernel, by decide +kernel⟩, List.mem_of_getElem? (i := 14) (by decide +kernel), List.mem_of_getElem? (i := 443) (by decide +kernel), List.mem_of_getElem? (i := 444) (by decide +kernel)⟩
theorem lw_p10 : lw_okq (⟨"PageMender$Mender", "isMended", "(LPageMender$Page;ZI)Z"⟩, 9) := ⟨⟨by decide +kernel, by decide +kernel⟩, List.mem_of_getElem? (i := 118) (by decide +kernel), List.mem_of_getElem? (i := 483) (by decide +kernel), List.mem_of_getElem? (i := 484) (by decide +kernel)⟩
theorem lw_p11 : lw_okq (⟨"PageMender$Mender", "becomesRight", "()Z"⟩, 9) := ⟨⟨by decide +kernel, by decide +kernel⟩, List.mem_of_getElem? (i := 118) (by decide +kernel), List.mem_of_getElem? (i := 488) (by decide +kernel), List.mem_of_getElem? (i := 489) (by decide +kernel)⟩
theorem lw_p12 : lw_okq (⟨"PageMender$Mender", "takeSyndromes", "()V"⟩, 9) := ⟨⟨by decide +kernel, by decide +kernel⟩, List.mem_of_getElem? (i := 118) (by decide +kernel), List.mem_of_getElem? (i := 497) (by decide +kernel), List.mem_of_getElem? (i := 498) (by decide +kernel)⟩
theorem lw_p13 : lw_okq (⟨"PageMender$Mender", "locate", "()I"⟩, 9) := ⟨⟨by decide +kernel, by decide +kernel⟩, List.mem_of_getElem? (i := 118) (by decide +kernel), List.mem_of_getElem? (i := 507) (by decide +kernel), List.mem_of_getElem? (i := 508) (by decide +kernel)⟩
theorem lw_p14 : lw_okq (⟨"PageMender$Mender", "missAt", "(II)I"⟩, 9) := ⟨⟨by decide +kernel, by decide +kernel⟩, List.mem_of_getElem? (i := 118) (by decide +kernel), List.mem_of_getElem? (i := 512) (by decide +kernel), List.mem_of_getElem? (i := 513) (by decide +kernel)⟩
theorem lw_p15 : lw_okq (⟨"PageMender$Mender", "addEarlier", "(II)V"⟩, 9) := ⟨⟨by decide +kernel, by decide +kernel⟩, List.mem_of_getElem? (i := 118) (by decide +kernel), List.mem_of_getElem? (i := 518) (by decide +kernel), List.mem_of_getElem? (i := 519) (by decide +kernel)⟩
def lw_privs_1 : List (MethodName × Nat) := [(⟨"PageMender$Code", "makePolynomial", "()V"⟩, 12), (⟨"PageMender$Field", "multiplyByRoot", "(II)V"⟩, 5), (⟨"PageMender$Code", "multiplyBy", "(II)V"⟩, 12), (⟨"PageMender$Code", "makeSteps", "()V"⟩, 12), (⟨"PageMender$Code", "loadPolynomial", "()V"⟩, 12), (⟨"PageMender", "hasByte", "(I)Z"⟩, 10), (⟨"PageMender$Code", "takeData", "(LPageMender$Row;)V"⟩, 12), (⟨"PageMender$Code", "registerAt", "(I)I"⟩, 12), (⟨"PageMender", "hasPage", "(I)Z"⟩, 10), (⟨"PageMender", "hasBit", "(I)Z"⟩, 10), (⟨"PageMender$Mender", "isMended", "(LPageMender$Page;ZI)Z"⟩, 9), (⟨"PageMender$Mender", "becomesRight", "()Z"⟩, 9), (⟨"PageMender$Mender", "takeSyndromes", "()V"⟩, 9), (⟨"PageMender$Mender", "locate", "()I"⟩, 9), (⟨"PageMender$Mender", "missAt", "(II)I"⟩, 9), (⟨"PageMender$Mender", "addEarlier", "(II)V"⟩, 9)]
theorem lw_r1 : ∀ q ∈ lw_privs_1, lw_okq q := List.forall_mem_cons.mpr ⟨lw_p0, List.forall_mem_cons.mpr ⟨lw_p1, List.forall_mem_cons.mpr ⟨lw_p2, List.forall_mem_cons.mpr ⟨lw_p3, List.forall_mem_cons.mpr ⟨lw_p4, List.forall_mem_cons.mpr ⟨lw_p5, List.forall_mem_cons.mpr ⟨lw_p6, List.forall_mem_cons.mpr ⟨lw_p7, List.forall_mem_cons.mpr ⟨lw_p8, List.forall_mem_cons.mpr ⟨lw_p9, List.forall_mem_cons.mpr ⟨lw_p10, List.forall_mem_cons.mpr ⟨lw_p11, List.forall_mem_cons.mpr ⟨lw_p12, List.forall_mem_cons.mpr ⟨lw_p13, List.forall_mem_cons.mpr ⟨lw_p14, List.forall_mem_cons.mpr ⟨lw_p15, fun _ h => absurd h List.not_mem_nil⟩⟩⟩⟩⟩⟩⟩⟩⟩⟩⟩⟩⟩⟩⟩⟩
theorem lw_p16 : lw_okq (⟨"PageMender$Mender", "findWrong", "(I)Z"⟩, 9) := ⟨⟨by decide +kernel, by decide +kernel⟩, List.mem_of_getElem? (i := 118) (by decide +kernel), List.mem_of_getElem? (i := 522) (by decide +kernel), List.mem_of_getElem? (i := 523) (by decide +kernel)⟩
theorem lw_p17 : lw_okq (⟨"PageMender$Mender", "locatorIsZero", "(I)Z"⟩, 9) := ⟨⟨by decide +kernel, by decide +kernel⟩, List.mem_of_getElem? (i := 118) (by decide +kernel), List.mem_of_getElem? (i := 527) (by decide +kernel), List.mem_of_getElem? (i := 528) (by decide +kernel)⟩
theorem lw_p18 : lw_okq (⟨"PageMender$Mender", "apartBesidesMarks", "(LPageMender$Page;)I"⟩, 9) := ⟨⟨by decide +kernel, by decide +kernel⟩, List.mem_of_getElem? (i := 118) (by decide +kernel), List.mem_of_getElem? (i := 533) (by decide +kernel), List.mem_of_getElem? (i := 534) (by decide +kernel)⟩
theorem lw_p19 : lw_okq (⟨"PageMender", "rewrite", "(LPageMender$Page;)I"⟩, 10) := ⟨⟨by decide +kernel, by decide +kernel⟩, List.mem_of_getElem? (i := 14) (by decide +kernel), List.mem_of_getElem? (i := 558) (by decide +kernel), List.mem_of_getElem? (i := 559) (by decide +kernel)⟩
theorem lw_p20 : lw_okq (⟨"PageMenderModel", "makeField", "(I)V"⟩, 27) := ⟨⟨by decide +kernel, by decide +kernel⟩, List.mem_of_getElem? (i := 575) (by decide +kernel), List.mem_of_getElem? (i := 672) (by decide +kernel), List.mem_of_getElem? (i := 673) (by decide +kernel)⟩
theorem lw_p21 : lw_okq (⟨"PageMenderModel", "makeGenerator", "(I)I"⟩, 27) := ⟨⟨by decide +kernel, by decide +kernel⟩, List.mem_of_getElem? (i := 575) (by decide +kernel), List.mem_of_getElem? (i := 682) (by decide +kernel), List.mem_of_getElem? (i := 683) (by decide +kernel)⟩
theorem lw_p22 : lw_okq (⟨"PageMenderModel", "generatorAt", "(II)I"⟩, 27) := ⟨⟨by decide +kernel, by decide +kernel⟩, List.mem_of_getElem? (i := 575) (by decide +kernel), List.mem_of_getElem? (i := 686) (by decide +kernel), List.mem_of_getElem? (i := 687) (by decide +kernel)⟩
theorem lw_p23 : lw_okq (⟨"PageMenderModel", "exponent", "(J)I"⟩, 27) := ⟨⟨by decide +kernel, by decide +kernel⟩, List.mem_of_getElem? (i := 575) (by decide +kernel), List.mem_of_getElem? (i := 690) (by decide +kernel), List.mem_of_getElem? (i := 691) (by decide +kernel)⟩
theorem lw_p24 : lw_okq (⟨"PageMenderModel", "minimalOf", "(I)I"⟩, 27) := ⟨⟨by decide +kernel, by decide +kernel⟩, List.mem_of_getElem? (i := 575) (by decide +kernel), List.mem_of_getElem? (i := 694) (by decide +kernel), List.mem_of_getElem? (i := 695) (by decide +kernel)⟩
theorem lw_p25 : lw_okq (⟨"PageMenderModel", "by", "(II)I"⟩, 27) := ⟨⟨by decide +kernel, by decide +kernel⟩, List.mem_of_getElem? (i := 575) (by decide +kernel), List.mem_of_getElem? (i := 698) (by decide +kernel), List.mem_of_getElem? (i := 699) (by decide +kernel)⟩
theorem lw_p26 : lw_okq (⟨"PageMenderModel", "isNumber", "(I)Z"⟩, 27) := ⟨⟨by decide +kernel, by decide +kernel⟩, List.mem_of_getElem? (i := 575) (by decide +kernel), List.mem_of_getElem? (i := 706) (by decide +kernel), List.mem_of_getElem? (i := 707) (by decide +kernel)⟩
theorem lw_p27 : lw_okq (⟨"PageMenderModel", "over", "(I)I"⟩, 27) := ⟨⟨by decide +kernel, by decide +kernel⟩, List.mem_of_getElem? (i := 575) (by decide +kernel), List.mem_of_getElem? (i := 714) (by decide +kernel), List.mem_of_getElem? (i := 715) (by decide +kernel)⟩
theorem lw_p28 : lw_okq (⟨"PageMenderModel", "complete", "()V"⟩, 27) := ⟨⟨by decide +kernel, by decide +kernel⟩, List.mem_of_getElem? (i := 575) (by decide +kernel), List.mem_of_getElem? (i := 753) (by decide +kernel), List.mem_of_getElem? (i := 754) (by decide +kernel)⟩
theorem lw_p29 : lw_okq (⟨"PageMenderModel", "program", "(I)I"⟩, 27) := ⟨⟨by decide +kernel, by decide +kernel⟩, List.mem_of_getElem? (i := 575) (by decide +kernel), List.mem_of_getElem? (i := 764) (by decide +kernel), List.mem_of_getElem? (i := 765) (by decide +kernel)⟩
theorem lw_p30 : lw_okq (⟨"PageMenderModel", "set", "(IZ)V"⟩, 27) := ⟨⟨by decide +kernel, by decide +kernel⟩, List.mem_of_getElem? (i := 575) (by decide +kernel), List.mem_of_getElem? (i := 768) (by decide +kernel), List.mem_of_getElem? (i := 769) (by decide +kernel)⟩
theorem lw_p31 : lw_okq (⟨"PageMenderModel", "wipe", "(I)V"⟩, 27) := ⟨⟨by decide +kernel, by decide +kernel⟩, List.mem_of_getElem? (i := 575) (by decide +kernel), List.mem_of_getElem? (i := 776) (by decide +kernel), List.mem_of_getElem? (i := 777) (by decide +kernel)⟩
def lw_privs_2 : List (MethodName × Nat) := [(⟨"PageMender$Mender", "findWrong", "(I)Z"⟩, 9), (⟨"PageMender$Mender", "locatorIsZero", "(I)Z"⟩, 9), (⟨"PageMender$Mender", "apartBesidesMarks", "(LPageMender$Page;)I"⟩, 9), (⟨"PageMender", "rewrite", "(LPageMender$Page;)I"⟩, 10), (⟨"PageMenderModel", "makeField", "(I)V"⟩, 27), (⟨"PageMenderModel", "makeGenerator", "(I)I"⟩, 27), (⟨"PageMenderModel", "generatorAt", "(II)I"⟩, 27), (⟨"PageMenderModel", "exponent", "(J)I"⟩, 27), (⟨"PageMenderModel", "minimalOf", "(I)I"⟩, 27), (⟨"PageMenderModel", "by", "(II)I"⟩, 27), (⟨"PageMenderModel", "isNumber", "(I)Z"⟩, 27), (⟨"PageMenderModel", "over", "(I)I"⟩, 27), (⟨"PageMenderModel", "complete", "()V"⟩, 27), (⟨"PageMenderModel", "program", "(I)I"⟩, 27), (⟨"PageMenderModel", "set", "(IZ)V"⟩, 27), (⟨"PageMenderModel", "wipe", "(I)V"⟩, 27)]
theorem lw_r2 : ∀ q ∈ lw_privs_2, lw_okq q := List.forall_mem_cons.mpr ⟨lw_p16, List.forall_mem_cons.mpr ⟨lw_p17, List.forall_mem_cons.mpr ⟨lw_p18, List.forall_mem_cons.mpr ⟨lw_p19, List.forall_mem_cons.mpr ⟨lw_p20, List.forall_mem_cons.mpr ⟨lw_p21, List.forall_mem_cons.mpr ⟨lw_p22, List.forall_mem_cons.mpr ⟨lw_p23, List.forall_mem_cons.mpr ⟨lw_p24, List.forall_mem_cons.mpr ⟨lw_p25, List.forall_mem_cons.mpr ⟨lw_p26, List.forall_mem_cons.mpr ⟨lw_p27, List.forall_mem_cons.mpr ⟨lw_p28, List.forall_mem_cons.mpr ⟨lw_p29, List.forall_mem_cons.mpr ⟨lw_p30, List.forall_mem_cons.mpr ⟨lw_p31, fun _ h => absurd h List.not_mem_nil⟩⟩⟩⟩⟩⟩⟩⟩⟩⟩⟩⟩⟩⟩⟩⟩
theorem lw_p32 : lw_okq (⟨"PageMenderModel", "isBit", "(II)Z"⟩, 27) := ⟨⟨by decide +kernel, by decide +kernel⟩, List.mem_of_getElem? (i := 575) (by decide +kernel), List.mem_of_getElem? (i := 784) (by decide +kernel), List.mem_of_getElem? (i := 785) (by decide +kernel)⟩
theorem lw_p33 : lw_okq (⟨"PageMenderModel", "countStuck", "(I)I"⟩, 27) := ⟨⟨by decide +kernel, by decide +kernel⟩, List.mem_of_getElem? (i := 575) (by decide +kernel), List.mem_of_getElem? (i := 792) (by decide +kernel), List.mem_of_getElem? (i := 793) (by decide +kernel)⟩
theorem lw_p34 : lw_okq (⟨"PageMenderModel", "countMarks", "(I)I"⟩, 27) := ⟨⟨by decide +kernel, by decide +kernel⟩, List.mem_of_getElem? (i := 575) (by decide +kernel), List.mem_of_getElem? (i := 800) (by decide +kernel), List.mem_of_getElem? (i := 801) (by decide +kernel)⟩
theorem lw_p35 : lw_okq (⟨"PageMenderModel", "mend", "(I)I"⟩, 27) := ⟨⟨by decide +kernel, by decide +kernel⟩, List.mem_of_getElem? (i := 575) (by decide +kernel), List.mem_of_getElem? (i := 812) (by decide +kernel), List.mem_of_getElem? (i := 813) (by decide +kernel)⟩
theorem lw_p36 : lw_okq (⟨"PageMenderModel", "isMended", "()Z"⟩, 27) := ⟨⟨by decide +kernel, by decide +kernel⟩, List.mem_of_getElem? (i := 575) (by decide +kernel), List.mem_of_getElem? (i := 816) (by decide +kernel), List.mem_of_getElem? (i := 817) (by decide +kernel)⟩
theorem lw_p37 : lw_okq (⟨"PageMenderModel", "isRight", "()Z"⟩, 27) := ⟨⟨by decide +kernel, by decide +kernel⟩, List.mem_of_getElem? (i := 575) (by decide +kernel), List.mem_of_getElem? (i := 820) (by decide +kernel), List.mem_of_getElem? (i := 821) (by decide +kernel)⟩
theorem lw_p38 : lw_okq (⟨"PageMenderModel", "solves", "(I)Z"⟩, 27) := ⟨⟨by decide +kernel, by decide +kernel⟩, List.mem_of_getElem? (i := 575) (by decide +kernel), List.mem_of_getElem? (i := 824) (by decide +kernel), List.mem_of_getElem? (i := 825) (by decide +kernel)⟩
theorem lw_p39 : lw_okq (⟨"PageMenderModel", "countZeros", "(I)I"⟩, 27) := ⟨⟨by decide +kernel, by decide +kernel⟩, List.mem_of_getElem? (i := 575) (by decide +kernel), List.mem_of_getElem? (i := 848) (by decide +kernel), List.mem_of_getElem? (i := 849) (by decide +kernel)⟩
def lw_privs_3 : List (MethodName × Nat) := [(⟨"PageMenderModel", "isBit", "(II)Z"⟩, 27), (⟨"PageMenderModel", "countStuck", "(I)I"⟩, 27), (⟨"PageMenderModel", "countMarks", "(I)I"⟩, 27), (⟨"PageMenderModel", "mend", "(I)I"⟩, 27), (⟨"PageMenderModel", "isMended", "()Z"⟩, 27), (⟨"PageMenderModel", "isRight", "()Z"⟩, 27), (⟨"PageMenderModel", "solves", "(I)Z"⟩, 27), (⟨"PageMenderModel", "countZeros", "(I)I"⟩, 27)]
theorem lw_r3 : ∀ q ∈ lw_privs_3, lw_okq q := List.forall_mem_cons.mpr ⟨lw_p32, List.forall_mem_cons.mpr ⟨lw_p33, List.forall_mem_cons.mpr ⟨lw_p34, List.forall_mem_cons.mpr ⟨lw_p35, List.forall_mem_cons.mpr ⟨lw_p36, List.forall_mem_cons.mpr ⟨lw_p37, List.forall_mem_cons.mpr ⟨lw_p38, List.forall_mem_cons.mpr ⟨lw_p39, fun _ h => absurd h List.not_mem_nil⟩⟩⟩⟩⟩⟩⟩⟩
def lw_privs : List (MethodName × Nat) := lw_privs_1 ++ (lw_privs_2 ++ (lw_privs_3))
def lw_tbl : List Cond := k2_sels lw_privs ++ tables_1
theorem lw_privs_ok : ∀ q ∈ lw_privs, lw_okq q := by
  show ∀ q ∈ lw_privs_1 ++ (lw_privs_2 ++ (lw_privs_3)), lw_okq q
  exact List.forall_mem_append.mpr ⟨lw_r1, List.forall_mem_append.mpr ⟨lw_r2, lw_r3⟩⟩
-- ===== end of PART A; then your names; then what follows =====
end
section
def RX0 : String := "PageMender$Code"
def TX0 : u_T := fun k => match k with
  | 0 => ("PageMender$Code", "field", "LPageMender$Field;", true)
  | 1 => ("PageMender$Code", "polynomial", "[I", true)
  | 2 => ("PageMender$Code", "highSteps", "[J", true)
  | 3 => ("PageMender$Code", "lowSteps", "[J", true)
  | 4 => ("PageMender$Code", "rest", "[I", true)
  | 5 => ("PageMender$Code", "ones", "LPageMender$Row;", true)
  | 6 => ("PageMender$Code", "t", "I", false)
  | 7 => ("PageMender$Code", "d", "I", false)
  | 8 => ("PageMender$Code", "\x72", "I", false)
  | 9 => ("PageMender$Code", "n", "I", false)
  | 10 => ("PageMender$Code", "high", "J", false)
  | _ => ("PageMender$Code", "low", "J", false)
def tyX0 : Nat → FieldType := fun k => match k with
  | 0 => .object "PageMender$Field"
  | 1 => .array .int
  | 2 => .array .long
  | 3 => .array .long
  | 4 => .array .int
  | 5 => .object "PageMender$Row"
  | 6 => .int
  | 7 => .int
  | 8 => .int
  | 9 => .int
  | 10 => .long
  | _ => .long
abbrev wsX00 : List Cond := u_ws RX0 TX0 12
theorem nmX0 : ∀ a, a < 12 → ∀ b, b < 12 → a ≠ b → (TX0 a).2.1 ≠ (TX0 b).2.1 := by decide +kernel
theorem tyX0_ok : ∀ k, k < 12 → parseFieldDescriptor (TX0 k).2.2.1 = some (tyX0 k) := by decide +kernel
abbrev cX0_init : ByteArray := prog_2_method_1_code
def yX0_init : MethodName := ⟨RX0, "<init>", "(LPageMender$Field;)V"⟩
abbrev cX0_become : ByteArray := prog_2_method_2_code
def yX0_become : MethodName := ⟨RX0, "become", "(II)V"⟩
abbrev cX0_makePolynomial : ByteArray := prog_2_method_3_code
def yX0_makePolynomial : MethodName := ⟨RX0, "makePolynomial", "()V"⟩
abbrev cX0_multiplyBy : ByteArray := prog_2_method_4_code
def yX0_multiplyBy : MethodName := ⟨RX0, "multiplyBy", "(II)V"⟩
abbrev cX0_makeSteps : ByteArray := prog_2_method_5_code
def yX0_makeSteps : MethodName := ⟨RX0, "makeSteps", "()V"⟩
abbrev cX0_loadPolynomial : ByteArray := prog_2_method_6_code
def yX0_loadPolynomial : MethodName := ⟨RX0, "loadPolynomial", "()V"⟩
abbrev cX0_takeData : ByteArray := prog_2_method_7_code
def yX0_takeData : MethodName := ⟨RX0, "takeData", "(LPageMender$Row;)V"⟩
abbrev cX0_registerAt : ByteArray := prog_2_method_8_code
def yX0_registerAt : MethodName := ⟨RX0, "registerAt", "(I)I"⟩
abbrev cX0_complete : ByteArray := prog_2_method_9_code
def yX0_complete : MethodName := ⟨RX0, "complete", "(LPageMender$Row;)V"⟩
abbrev cX0_divide : ByteArray := prog_2_method_10_code
def yX0_divide : MethodName := ⟨RX0, "divide", "(LPageMender$Row;)Z"⟩
abbrev cX0_restAt : ByteArray := prog_2_method_11_code
def yX0_restAt : MethodName := ⟨RX0, "restAt", "(I)I"⟩
def RX1 : String := "PageMender$Cosets"
def TX1 : u_T := fun k => match k with
  | _ => ("", "", "", false)
def tyX1 : Nat → FieldType := fun k => match k with
  | _ => .int
abbrev wsX10 : List Cond := u_ws RX1 TX1 0
theorem nmX1 : ∀ a, a < 0 → ∀ b, b < 0 → a ≠ b → (TX1 a).2.1 ≠ (TX1 b).2.1 := by decide +kernel
theorem tyX1_ok : ∀ k, k < 0 → parseFieldDescriptor (TX1 k).2.2.1 = some (tyX1 k) := by decide +kernel
abbrev cX1_reduced : ByteArray := prog_3_method_2_code
def yX1_reduced : MethodName := ⟨RX1, "reduced", "(II)I"⟩
abbrev cX1_doubled : ByteArray := prog_3_method_3_code
def yX1_doubled : MethodName := ⟨RX1, "doubled", "(II)I"⟩
abbrev cX1_size : ByteArray := prog_3_method_4_code
def yX1_size : MethodName := ⟨RX1, "size", "(II)I"⟩
abbrev cX1_least : ByteArray := prog_3_method_5_code
def yX1_least : MethodName := ⟨RX1, "least", "(II)I"⟩
abbrev cX1_isNew : ByteArray := prog_3_method_6_code
def yX1_isNew : MethodName := ⟨RX1, "isNew", "(II)Z"⟩
abbrev cX1_tailLength : ByteArray := prog_3_method_7_code
def yX1_tailLength : MethodName := ⟨RX1, "tailLength", "(II)I"⟩
def RX2 : String := "PageMender$Field"
def TX2 : u_T := fun k => match k with
  | 0 => ("PageMender$Field", "powers", "[I", true)
  | 1 => ("PageMender$Field", "logs", "[I", true)
  | 2 => ("PageMender$Field", "coefficients", "[I", true)
  | 3 => ("PageMender$Field", "m", "I", false)
  | _ => ("PageMender$Field", "order", "I", false)
def tyX2 : Nat → FieldType := fun k => match k with
  | 0 => .array .int
  | 1 => .array .int
  | 2 => .array .int
  | 3 => .int
  | _ => .int
abbrev wsX20 : List Cond := u_ws RX2 TX2 5
theorem nmX2 : ∀ a, a < 5 → ∀ b, b < 5 → a ≠ b → (TX2 a).2.1 ≠ (TX2 b).2.1 := by decide +kernel
theorem tyX2_ok : ∀ k, k < 5 → parseFieldDescriptor (TX2 k).2.2.1 = some (tyX2 k) := by decide +kernel
abbrev cX2_init : ByteArray := prog_4_method_1_code
def yX2_init : MethodName := ⟨RX2, "<init>", "()V"⟩
abbrev cX2_become : ByteArray := prog_4_method_2_code
def yX2_become : MethodName := ⟨RX2, "become", "(I)V"⟩
abbrev cX2_has : ByteArray := prog_4_method_3_code
def yX2_has : MethodName := ⟨RX2, "has", "(I)Z"⟩
abbrev cX2_powerOfA : ByteArray := prog_4_method_4_code
def yX2_powerOfA : MethodName := ⟨RX2, "powerOfA", "(I)I"⟩
abbrev cX2_product : ByteArray := prog_4_method_5_code
def yX2_product : MethodName := ⟨RX2, "product", "(II)I"⟩
abbrev cX2_reciprocal : ByteArray := prog_4_method_6_code
def yX2_reciprocal : MethodName := ⟨RX2, "reciprocal", "(I)I"⟩
abbrev cX2_minimalPolynomial : ByteArray := prog_4_method_7_code
def yX2_minimalPolynomial : MethodName := ⟨RX2, "minimalPolynomial", "(I)I"⟩
abbrev cX2_multiplyByRoot : ByteArray := prog_4_method_8_code
def yX2_multiplyByRoot : MethodName := ⟨RX2, "multiplyByRoot", "(II)V"⟩
def RX3 : String := "PageMender$Mender"
def TX3 : u_T := fun k => match k with
  | 0 => ("PageMender$Mender", "field", "LPageMender$Field;", true)
  | 1 => ("PageMender$Mender", "code", "LPageMender$Code;", true)
  | 2 => ("PageMender$Mender", "word", "LPageMender$Row;", true)
  | 3 => ("PageMender$Mender", "syndromes", "[I", true)
  | 4 => ("PageMender$Mender", "locator", "[I", true)
  | 5 => ("PageMender$Mender", "earlier", "[I", true)
  | 6 => ("PageMender$Mender", "spare", "[I", true)
  | 7 => ("PageMender$Mender", "logs", "[I", true)
  | _ => ("PageMender$Mender", "wrong", "[I", true)
def tyX3 : Nat → FieldType := fun k => match k with
  | 0 => .object "PageMender$Field"
  | 1 => .object "PageMender$Code"
  | 2 => .object "PageMender$Row"
  | 3 => .array .int
  | 4 => .array .int
  | 5 => .array .int
  | 6 => .array .int
  | 7 => .array .int
  | _ => .array .int
abbrev wsX30 : List Cond := u_ws RX3 TX3 9
theorem nmX3 : ∀ a, a < 9 → ∀ b, b < 9 → a ≠ b → (TX3 a).2.1 ≠ (TX3 b).2.1 := by decide +kernel
theorem tyX3_ok : ∀ k, k < 9 → parseFieldDescriptor (TX3 k).2.2.1 = some (tyX3 k) := by decide +kernel
abbrev cX3_init : ByteArray := prog_5_method_1_code
def yX3_init : MethodName := ⟨RX3, "<init>", "(LPageMender$Field;LPageMender$Code;)V"⟩
abbrev cX3_mend : ByteArray := prog_5_method_2_code
def yX3_mend : MethodName := ⟨RX3, "mend", "(LPageMender$Page;)I"⟩
abbrev cX3_isMended : ByteArray := prog_5_method_3_code
def yX3_isMended : MethodName := ⟨RX3, "isMended", "(LPageMender$Page;ZI)Z"⟩
abbrev cX3_apartBesidesMarks : ByteArray := prog_5_method_4_code
def yX3_apartBesidesMarks : MethodName := ⟨RX3, "apartBesidesMarks", "(LPageMender$Page;)I"⟩
abbrev cX3_becomesRight : ByteArray := prog_5_method_5_code
def yX3_becomesRight : MethodName := ⟨RX3, "becomesRight", "()Z"⟩
abbrev cX3_takeSyndromes : ByteArray := prog_5_method_6_code
def yX3_takeSyndromes : MethodName := ⟨RX3, "takeSyndromes", "()V"⟩
abbrev cX3_locate : ByteArray := prog_5_method_7_code
def yX3_locate : MethodName := ⟨RX3, "locate", "()I"⟩
abbrev cX3_missAt : ByteArray := prog_5_method_8_code
def yX3_missAt : MethodName := ⟨RX3, "missAt", "(II)I"⟩
abbrev cX3_addEarlier : ByteArray := prog_5_method_9_code
def yX3_addEarlier : MethodName := ⟨RX3, "addEarlier", "(II)V"⟩
abbrev cX3_findWrong : ByteArray := prog_5_method_10_code
def yX3_findWrong : MethodName := ⟨RX3, "findWrong", "(I)Z"⟩
abbrev cX3_locatorIsZero : ByteArray := prog_5_method_11_code
def yX3_locatorIsZero : MethodName := ⟨RX3, "locatorIsZero", "(I)Z"⟩
def RX4 : String := "PageMender$Page"
def TX4 : u_T := fun k => match k with
  | 0 => ("PageMender$Page", "bits", "LPageMender$Row;", true)
  | 1 => ("PageMender$Page", "stuck", "LPageMender$Row;", true)
  | 2 => ("PageMender$Page", "marks", "LPageMender$Row;", true)
  | _ => ("PageMender$Page", "wear", "I", false)
def tyX4 : Nat → FieldType := fun k => match k with
  | 0 => .object "PageMender$Row"
  | 1 => .object "PageMender$Row"
  | 2 => .object "PageMender$Row"
  | _ => .int
abbrev wsX40 : List Cond := u_ws RX4 TX4 4
theorem nmX4 : ∀ a, a < 4 → ∀ b, b < 4 → a ≠ b → (TX4 a).2.1 ≠ (TX4 b).2.1 := by decide +kernel
theorem tyX4_ok : ∀ k, k < 4 → parseFieldDescriptor (TX4 k).2.2.1 = some (tyX4 k) := by decide +kernel
abbrev cX4_init : ByteArray := prog_6_method_1_code
def yX4_init : MethodName := ⟨RX4, "<init>", "()V"⟩
abbrev cX4_renew : ByteArray := prog_6_method_2_code
def yX4_renew : MethodName := ⟨RX4, "renew", "(LPageMender$Row;)V"⟩
abbrev cX4_wipe : ByteArray := prog_6_method_3_code
def yX4_wipe : MethodName := ⟨RX4, "wipe", "(LPageMender$Row;)V"⟩
abbrev cX4_program : ByteArray := prog_6_method_4_code
def yX4_program : MethodName := ⟨RX4, "program", "(LPageMender$Row;)I"⟩
abbrev cX4_turn : ByteArray := prog_6_method_5_code
def yX4_turn : MethodName := ⟨RX4, "turn", "(I)I"⟩
abbrev cX4_hold : ByteArray := prog_6_method_6_code
def yX4_hold : MethodName := ⟨RX4, "hold", "(II)V"⟩
def RX5 : String := "PageMender$Row"
def TX5 : u_T := fun k => match k with
  | _ => ("PageMender$Row", "longs", "[J", true)
def tyX5 : Nat → FieldType := fun k => match k with
  | _ => .array .long
abbrev wsX50 : List Cond := u_ws RX5 TX5 1
theorem nmX5 : ∀ a, a < 1 → ∀ b, b < 1 → a ≠ b → (TX5 a).2.1 ≠ (TX5 b).2.1 := by decide +kernel
theorem tyX5_ok : ∀ k, k < 1 → parseFieldDescriptor (TX5 k).2.2.1 = some (tyX5 k) := by decide +kernel
abbrev cX5_init : ByteArray := prog_7_method_1_code
def yX5_init : MethodName := ⟨RX5, "<init>", "()V"⟩
abbrev cX5_at : ByteArray := prog_7_method_2_code
def yX5_at : MethodName := ⟨RX5, "at", "(I)I"⟩
abbrev cX5_set : ByteArray := prog_7_method_3_code
def yX5_set : MethodName := ⟨RX5, "set", "(II)V"⟩
abbrev cX5_byteAt : ByteArray := prog_7_method_4_code
def yX5_byteAt : MethodName := ⟨RX5, "byteAt", "(I)I"⟩
abbrev cX5_setByte : ByteArray := prog_7_method_5_code
def yX5_setByte : MethodName := ⟨RX5, "setByte", "(II)V"⟩
abbrev cX5_ones : ByteArray := prog_7_method_6_code
def yX5_ones : MethodName := ⟨RX5, "ones", "()I"⟩
abbrev cX5_apart : ByteArray := prog_7_method_7_code
def yX5_apart : MethodName := ⟨RX5, "apart", "(LPageMender$Row;)I"⟩
abbrev cX5_clear : ByteArray := prog_7_method_8_code
def yX5_clear : MethodName := ⟨RX5, "clear", "()V"⟩
abbrev cX5_become : ByteArray := prog_7_method_9_code
def yX5_become : MethodName := ⟨RX5, "become", "(LPageMender$Row;)V"⟩
abbrev cX5_becomeDifference : ByteArray := prog_7_method_10_code
def yX5_becomeDifference : MethodName := ⟨RX5, "becomeDifference", "(LPageMender$Row;LPageMender$Row;)V"⟩
abbrev cX5_becomeFirstOnes : ByteArray := prog_7_method_11_code
def yX5_becomeFirstOnes : MethodName := ⟨RX5, "becomeFirstOnes", "(I)V"⟩
def RX6 : String := "PageMender"
def TX6 : u_T := fun k => match k with
  | 0 => ("PageMender", "field", "LPageMender$Field;", true)
  | 1 => ("PageMender", "code", "LPageMender$Code;", true)
  | 2 => ("PageMender", "mender", "LPageMender$Mender;", true)
  | 3 => ("PageMender", "pages", "[LPageMender$Page;", true)
  | 4 => ("PageMender", "buffer", "LPageMender$Row;", true)
  | 5 => ("PageMender", "turnedBits", "LPageMender$Row;", true)
  | 6 => ("PageMender", "opened", "Z", false)
  | 7 => ("PageMender", "readsMended", "I", false)
  | 8 => ("PageMender", "readsRight", "I", false)
  | _ => ("PageMender", "readsLost", "I", false)
def tyX6 : Nat → FieldType := fun k => match k with
  | 0 => .object "PageMender$Field"
  | 1 => .object "PageMender$Code"
  | 2 => .object "PageMender$Mender"
  | 3 => .array (.object "PageMender$Page")
  | 4 => .object "PageMender$Row"
  | 5 => .object "PageMender$Row"
  | 6 => .boolean
  | 7 => .int
  | 8 => .int
  | _ => .int
abbrev wsX60 : List Cond := u_ws RX6 TX6 10
theorem nmX6 : ∀ a, a < 10 → ∀ b, b < 10 → a ≠ b → (TX6 a).2.1 ≠ (TX6 b).2.1 := by decide +kernel
theorem tyX6_ok : ∀ k, k < 10 → parseFieldDescriptor (TX6 k).2.2.1 = some (tyX6 k) := by decide +kernel
abbrev cX6_init : ByteArray := prog_1_method_1_code
def yX6_init : MethodName := ⟨RX6, "<init>", "()V"⟩
abbrev cX6_open : ByteArray := prog_1_method_2_code
def yX6_open : MethodName := ⟨RX6, "open", "(III)I"⟩
abbrev cX6_times : ByteArray := prog_1_method_3_code
def yX6_times : MethodName := ⟨RX6, "times", "(II)I"⟩
abbrev cX6_inverse : ByteArray := prog_1_method_4_code
def yX6_inverse : MethodName := ⟨RX6, "inverse", "(I)I"⟩
abbrev cX6_power : ByteArray := prog_1_method_5_code
def yX6_power : MethodName := ⟨RX6, "power", "(I)I"⟩
abbrev cX6_log : ByteArray := prog_1_method_6_code
def yX6_log : MethodName := ⟨RX6, "log", "(I)I"⟩
abbrev cX6_minimal : ByteArray := prog_1_method_7_code
def yX6_minimal : MethodName := ⟨RX6, "minimal", "(I)I"⟩
abbrev cX6_generator : ByteArray := prog_1_method_8_code
def yX6_generator : MethodName := ⟨RX6, "generator", "(I)I"⟩
abbrev cX6_put : ByteArray := prog_1_method_9_code
def yX6_put : MethodName := ⟨RX6, "put", "(II)I"⟩
abbrev cX6_fill : ByteArray := prog_1_method_10_code
def yX6_fill : MethodName := ⟨RX6, "fill", "(IJ)I"⟩
abbrev cX6_get : ByteArray := prog_1_method_11_code
def yX6_get : MethodName := ⟨RX6, "get", "(I)I"⟩
abbrev cX6_tail : ByteArray := prog_1_method_12_code
def yX6_tail : MethodName := ⟨RX6, "tail", "(I)I"⟩
abbrev cX6_write : ByteArray := prog_1_method_13_code
def yX6_write : MethodName := ⟨RX6, "write", "(I)I"⟩
abbrev cX6_erase : ByteArray := prog_1_method_14_code
def yX6_erase : MethodName := ⟨RX6, "erase", "(I)I"⟩
abbrev cX6_flip : ByteArray := prog_1_method_15_code
def yX6_flip : MethodName := ⟨RX6, "flip", "(II)I"⟩
abbrev cX6_stick : ByteArray := prog_1_method_16_code
def yX6_stick : MethodName := ⟨RX6, "stick", "(III)I"⟩
abbrev cX6_mark : ByteArray := prog_1_method_17_code
def yX6_mark : MethodName := ⟨RX6, "mark", "(IIZ)I"⟩
abbrev cX6_bit : ByteArray := prog_1_method_18_code
def yX6_bit : MethodName := ⟨RX6, "bit", "(II)I"⟩
abbrev cX6_read : ByteArray := prog_1_method_19_code
def yX6_read : MethodName := ⟨RX6, "read", "(I)I"⟩
abbrev cX6_turned : ByteArray := prog_1_method_20_code
def yX6_turned : MethodName := ⟨RX6, "turned", "(I)I"⟩
abbrev cX6_syndrome : ByteArray := prog_1_method_21_code
def yX6_syndrome : MethodName := ⟨RX6, "syndrome", "(II)I"⟩
abbrev cX6_copy : ByteArray := prog_1_method_22_code
def yX6_copy : MethodName := ⟨RX6, "copy", "(II)I"⟩
abbrev cX6_refresh : ByteArray := prog_1_method_23_code
def yX6_refresh : MethodName := ⟨RX6, "refresh", "(I)I"⟩
abbrev cX6_told : ByteArray := prog_1_method_24_code
def yX6_told : MethodName := ⟨RX6, "told", "(II)I"⟩
abbrev cX6_about : ByteArray := prog_1_method_25_code
def yX6_about : MethodName := ⟨RX6, "about", "(I)I"⟩
abbrev cX6_hasByte : ByteArray := prog_1_method_26_code
def yX6_hasByte : MethodName := ⟨RX6, "hasByte", "(I)Z"⟩
abbrev cX6_hasPage : ByteArray := prog_1_method_27_code
def yX6_hasPage : MethodName := ⟨RX6, "hasPage", "(I)Z"⟩
abbrev cX6_hasBit : ByteArray := prog_1_method_28_code
def yX6_hasBit : MethodName := ⟨RX6, "hasBit", "(I)Z"⟩
abbrev cX6_rewrite : ByteArray := prog_1_method_29_code
def yX6_rewrite : MethodName := ⟨RX6, "rewrite", "(LPageMender$Page;)I"⟩
def RX7 : String := "PageMenderModel"
def TX7 : u_T := fun k => match k with
  | 0 => ("PageMenderModel", "isOpen", "Z", false)
  | 1 => ("PageMenderModel", "m", "I", false)
  | 2 => ("PageMenderModel", "t", "I", false)
  | 3 => ("PageMenderModel", "d", "I", false)
  | 4 => ("PageMenderModel", "\x72", "I", false)
  | 5 => ("PageMenderModel", "n", "I", false)
  | 6 => ("PageMenderModel", "all", "I", false)
  | 7 => ("PageMenderModel", "powers", "[I", true)
  | 8 => ("PageMenderModel", "logs", "[I", true)
  | 9 => ("PageMenderModel", "generator", "[I", true)
  | 10 => ("PageMenderModel", "buffer", "[I", true)
  | 11 => ("PageMenderModel", "bits", "[Z", true)
  | 12 => ("PageMenderModel", "stuck", "[I", true)
  | 13 => ("PageMenderModel", "marks", "[Z", true)
  | 14 => ("PageMenderModel", "wear", "[I", true)
  | 15 => ("PageMenderModel", "turned", "[I", true)
  | 16 => ("PageMenderModel", "turns", "I", false)
  | 17 => ("PageMenderModel", "mended", "I", false)
  | 18 => ("PageMenderModel", "right", "I", false)
  | 19 => ("PageMenderModel", "lost", "I", false)
  | 20 => ("PageMenderModel", "made", "[I", true)
  | 21 => ("PageMenderModel", "spare", "[I", true)
  | 22 => ("PageMenderModel", "word", "[Z", true)
  | 23 => ("PageMenderModel", "left", "[I", true)
  | 24 => ("PageMenderModel", "syndromes", "[I", true)
  | 25 => ("PageMenderModel", "lines", "[I", true)
  | _ => ("PageMenderModel", "locator", "[I", true)
def tyX7 : Nat → FieldType := fun k => match k with
  | 0 => .boolean
  | 1 => .int
  | 2 => .int
  | 3 => .int
  | 4 => .int
  | 5 => .int
  | 6 => .int
  | 7 => .array .int
  | 8 => .array .int
  | 9 => .array .int
  | 10 => .array .int
  | 11 => .array .boolean
  | 12 => .array .int
  | 13 => .array .boolean
  | 14 => .array .int
  | 15 => .array .int
  | 16 => .int
  | 17 => .int
  | 18 => .int
  | 19 => .int
  | 20 => .array .int
  | 21 => .array .int
  | 22 => .array .boolean
  | 23 => .array .int
  | 24 => .array .int
  | 25 => .array .int
  | _ => .array .int
abbrev wsX70 : List Cond := u_ws RX7 TX7 27
theorem nmX7 : ∀ a, a < 27 → ∀ b, b < 27 → a ≠ b → (TX7 a).2.1 ≠ (TX7 b).2.1 := by decide +kernel
theorem tyX7_ok : ∀ k, k < 27 → parseFieldDescriptor (TX7 k).2.2.1 = some (tyX7 k) := by decide +kernel
abbrev cX7_init : ByteArray := prog_9_method_1_code
def yX7_init : MethodName := ⟨RX7, "<init>", "()V"⟩
abbrev cX7_within : ByteArray := prog_9_method_3_code
def yX7_within : MethodName := ⟨RX7, "within", "(III)Z"⟩
abbrev cX7_polynomial : ByteArray := prog_9_method_4_code
def yX7_polynomial : MethodName := ⟨RX7, "polynomial", "(I)I"⟩
abbrev cX7_product : ByteArray := prog_9_method_5_code
def yX7_product : MethodName := ⟨RX7, "product", "(III)I"⟩
abbrev cX7_by : ByteArray := prog_9_method_6_code
def yX7_by : MethodName := ⟨RX7, "by", "(II)I"⟩
abbrev cX7_exponent : ByteArray := prog_9_method_7_code
def yX7_exponent : MethodName := ⟨RX7, "exponent", "(J)I"⟩
abbrev cX7_over : ByteArray := prog_9_method_8_code
def yX7_over : MethodName := ⟨RX7, "over", "(I)I"⟩
abbrev cX7_isNumber : ByteArray := prog_9_method_9_code
def yX7_isNumber : MethodName := ⟨RX7, "isNumber", "(I)Z"⟩
abbrev cX7_minimalOf : ByteArray := prog_9_method_10_code
def yX7_minimalOf : MethodName := ⟨RX7, "minimalOf", "(I)I"⟩
abbrev cX7_generatorAt : ByteArray := prog_9_method_11_code
def yX7_generatorAt : MethodName := ⟨RX7, "generatorAt", "(II)I"⟩
abbrev cX7_makeGenerator : ByteArray := prog_9_method_12_code
def yX7_makeGenerator : MethodName := ⟨RX7, "makeGenerator", "(I)I"⟩
abbrev cX7_makeField : ByteArray := prog_9_method_13_code
def yX7_makeField : MethodName := ⟨RX7, "makeField", "(I)V"⟩
abbrev cX7_open : ByteArray := prog_9_method_14_code
def yX7_open : MethodName := ⟨RX7, "open", "(III)I"⟩
abbrev cX7_times : ByteArray := prog_9_method_15_code
def yX7_times : MethodName := ⟨RX7, "times", "(II)I"⟩
abbrev cX7_inverse : ByteArray := prog_9_method_16_code
def yX7_inverse : MethodName := ⟨RX7, "inverse", "(I)I"⟩
abbrev cX7_power : ByteArray := prog_9_method_17_code
def yX7_power : MethodName := ⟨RX7, "power", "(I)I"⟩
abbrev cX7_log : ByteArray := prog_9_method_18_code
def yX7_log : MethodName := ⟨RX7, "log", "(I)I"⟩
abbrev cX7_minimal : ByteArray := prog_9_method_19_code
def yX7_minimal : MethodName := ⟨RX7, "minimal", "(I)I"⟩
abbrev cX7_generator : ByteArray := prog_9_method_20_code
def yX7_generator : MethodName := ⟨RX7, "generator", "(I)I"⟩
abbrev cX7_put : ByteArray := prog_9_method_21_code
def yX7_put : MethodName := ⟨RX7, "put", "(II)I"⟩
abbrev cX7_fill : ByteArray := prog_9_method_22_code
def yX7_fill : MethodName := ⟨RX7, "fill", "(IJ)I"⟩
abbrev cX7_get : ByteArray := prog_9_method_23_code
def yX7_get : MethodName := ⟨RX7, "get", "(I)I"⟩
abbrev cX7_complete : ByteArray := prog_9_method_24_code
def yX7_complete : MethodName := ⟨RX7, "complete", "()V"⟩
abbrev cX7_tail : ByteArray := prog_9_method_25_code
def yX7_tail : MethodName := ⟨RX7, "tail", "(I)I"⟩
abbrev cX7_isPage : ByteArray := prog_9_method_26_code
def yX7_isPage : MethodName := ⟨RX7, "isPage", "(I)Z"⟩
abbrev cX7_isBit : ByteArray := prog_9_method_27_code
def yX7_isBit : MethodName := ⟨RX7, "isBit", "(II)Z"⟩
abbrev cX7_set : ByteArray := prog_9_method_28_code
def yX7_set : MethodName := ⟨RX7, "set", "(IZ)V"⟩
abbrev cX7_program : ByteArray := prog_9_method_29_code
def yX7_program : MethodName := ⟨RX7, "program", "(I)I"⟩
abbrev cX7_wipe : ByteArray := prog_9_method_30_code
def yX7_wipe : MethodName := ⟨RX7, "wipe", "(I)V"⟩
abbrev cX7_write : ByteArray := prog_9_method_31_code
def yX7_write : MethodName := ⟨RX7, "write", "(I)I"⟩
abbrev cX7_erase : ByteArray := prog_9_method_32_code
def yX7_erase : MethodName := ⟨RX7, "erase", "(I)I"⟩
abbrev cX7_flip : ByteArray := prog_9_method_33_code
def yX7_flip : MethodName := ⟨RX7, "flip", "(II)I"⟩
abbrev cX7_countStuck : ByteArray := prog_9_method_34_code
def yX7_countStuck : MethodName := ⟨RX7, "countStuck", "(I)I"⟩
abbrev cX7_countMarks : ByteArray := prog_9_method_35_code
def yX7_countMarks : MethodName := ⟨RX7, "countMarks", "(I)I"⟩
abbrev cX7_stick : ByteArray := prog_9_method_36_code
def yX7_stick : MethodName := ⟨RX7, "stick", "(III)I"⟩
abbrev cX7_mark : ByteArray := prog_9_method_37_code
def yX7_mark : MethodName := ⟨RX7, "mark", "(IIZ)I"⟩
abbrev cX7_bit : ByteArray := prog_9_method_38_code
def yX7_bit : MethodName := ⟨RX7, "bit", "(II)I"⟩
abbrev cX7_isRight : ByteArray := prog_9_method_39_code
def yX7_isRight : MethodName := ⟨RX7, "isRight", "()Z"⟩
abbrev cX7_solves : ByteArray := prog_9_method_40_code
def yX7_solves : MethodName := ⟨RX7, "solves", "(I)Z"⟩
abbrev cX7_isMended : ByteArray := prog_9_method_41_code
def yX7_isMended : MethodName := ⟨RX7, "isMended", "()Z"⟩
abbrev cX7_mend : ByteArray := prog_9_method_42_code
def yX7_mend : MethodName := ⟨RX7, "mend", "(I)I"⟩
abbrev cX7_read : ByteArray := prog_9_method_43_code
def yX7_read : MethodName := ⟨RX7, "read", "(I)I"⟩
abbrev cX7_turned : ByteArray := prog_9_method_44_code
def yX7_turned : MethodName := ⟨RX7, "turned", "(I)I"⟩
abbrev cX7_syndrome : ByteArray := prog_9_method_45_code
def yX7_syndrome : MethodName := ⟨RX7, "syndrome", "(II)I"⟩
abbrev cX7_copy : ByteArray := prog_9_method_46_code
def yX7_copy : MethodName := ⟨RX7, "copy", "(II)I"⟩
abbrev cX7_refresh : ByteArray := prog_9_method_47_code
def yX7_refresh : MethodName := ⟨RX7, "refresh", "(I)I"⟩
abbrev cX7_countZeros : ByteArray := prog_9_method_48_code
def yX7_countZeros : MethodName := ⟨RX7, "countZeros", "(I)I"⟩
abbrev cX7_told : ByteArray := prog_9_method_49_code
def yX7_told : MethodName := ⟨RX7, "told", "(II)I"⟩
abbrev cX7_about : ByteArray := prog_9_method_50_code
def yX7_about : MethodName := ⟨RX7, "about", "(I)I"⟩
def RJ13 : String := "java/lang/Long"
def TJ13 : u_T := fun k => match k with
  | _ => ("", "", "", false)
def tyJ13 : Nat → FieldType := fun k => match k with
  | _ => .int
abbrev wsJ130 : List Cond := u_ws RJ13 TJ13 0
theorem nmJ13 : ∀ a, a < 0 → ∀ b, b < 0 → a ≠ b → (TJ13 a).2.1 ≠ (TJ13 b).2.1 := by decide +kernel
theorem tyJ13_ok : ∀ k, k < 0 → parseFieldDescriptor (TJ13 k).2.2.1 = some (tyJ13 k) := by decide +kernel
abbrev cJ13_bitCount_95d88 : ByteArray := prog_10_method_50_code
def yJ13_bitCount_95d88 : MethodName := ⟨RJ13, "bitCount", "(J)I"⟩
def RJ9 : String := "java/lang/Math"
def TJ9 : u_T := fun k => match k with
  | _ => ("", "", "", false)
def tyJ9 : Nat → FieldType := fun k => match k with
  | _ => .int
abbrev wsJ90 : List Cond := u_ws RJ9 TJ9 0
theorem nmJ9 : ∀ a, a < 0 → ∀ b, b < 0 → a ≠ b → (TJ9 a).2.1 ≠ (TJ9 b).2.1 := by decide +kernel
theorem tyJ9_ok : ∀ k, k < 0 → parseFieldDescriptor (TJ9 k).2.2.1 = some (tyJ9 k) := by decide +kernel
abbrev cJ9_floorMod_7cf53 : ByteArray := prog_11_method_50_code
def yJ9_floorMod_7cf53 : MethodName := ⟨RJ9, "floorMod", "(II)I"⟩
abbrev cJ9_min_7cf53 : ByteArray := prog_11_method_69_code
def yJ9_min_7cf53 : MethodName := ⟨RJ9, "min", "(II)I"⟩
def RJ10 : String := "java/lang/System"
def TJ10 : u_T := fun k => match k with
  | _ => ("", "", "", false)
def tyJ10 : Nat → FieldType := fun k => match k with
  | _ => .int
abbrev wsJ100 : List Cond := u_ws RJ10 TJ10 0
theorem nmJ10 : ∀ a, a < 0 → ∀ b, b < 0 → a ≠ b → (TJ10 a).2.1 ≠ (TJ10 b).2.1 := by decide +kernel
theorem tyJ10_ok : ∀ k, k < 0 → parseFieldDescriptor (TJ10 k).2.2.1 = some (tyJ10 k) := by decide +kernel
def RJ7 : String := "java/util/Arrays"
def TJ7 : u_T := fun k => match k with
  | _ => ("", "", "", false)
def tyJ7 : Nat → FieldType := fun k => match k with
  | _ => .int
abbrev wsJ70 : List Cond := u_ws RJ7 TJ7 0
theorem nmJ7 : ∀ a, a < 0 → ∀ b, b < 0 → a ≠ b → (TJ7 a).2.1 ≠ (TJ7 b).2.1 := by decide +kernel
theorem tyJ7_ok : ∀ k, k < 0 → parseFieldDescriptor (TJ7 k).2.2.1 = some (tyJ7 k) := by decide +kernel
abbrev cJ7_fill_d0a16 : ByteArray := prog_13_method_101_code
def yJ7_fill_d0a16 : MethodName := ⟨RJ7, "fill", "([JJ)V"⟩
abbrev cJ7_fill_53178 : ByteArray := prog_13_method_103_code
def yJ7_fill_53178 : MethodName := ⟨RJ7, "fill", "([II)V"⟩
def RL : String := "PageMenderLaw"
abbrev cL_law : ByteArray := code
def yL_law : MethodName := ⟨RL, "law", "([I)Z"⟩
end
section
/-! A logic over places: a heap is a list of cells, a reference is a place in it (the address is the base and the place). G: the code of a method from a pc on; Cl: a method. -/
abbrev Ev : Type := Launch × va_G × (Nat → ClassId) × Nat × Nat × Nat × Nat × (Nat → Int32)
abbrev ev_l (X : Ev) : Launch := X.1
abbrev ev_D (X : Ev) : va_G := X.2.1
abbrev ev_k (X : Ev) : Nat → ClassId := X.2.2.1
abbrev ev_o (X : Ev) : Nat := X.2.2.2.1
abbrev ev_b (X : Ev) : Nat := X.2.2.2.2.1
abbrev ev_p (X : Ev) : Nat := X.2.2.2.2.2.1
abbrev ev_L (X : Ev) : Nat := X.2.2.2.2.2.2.1
abbrev ev_x (X : Ev) : Nat → Int32 := X.2.2.2.2.2.2.2
abbrev Cel : Type := (Nat × vp_A) ⊕ (Nat × List Value)
abbrev Hp : Type := List Cel
/-- a value as the machine has it: a place is an address; retAddr 0 stands for the script, retAddr 1 for the table of polynomials -/
def tv (X : Ev) : Value → Value
  | .ref i => .ref (ev_o X + i)
  | .retAddr 0 => .ref (ev_b X)
  | .retAddr (_ + 1) => .ref (ev_p X)
  | v => v
def ta (X : Ev) (a : vp_A) : vp_A := match a with
  | (n, .inr (.inr (.inr (.inr f)))) => (n, .inr (.inr (.inr (.inr (fun j => (f j).map (fun i => ev_o X + i))))))
  | x => x
def te (X : Ev) : Cel → va_E
  | .inl (t, a) => .inl (ev_k X t, ta X a)
  | .inr (ci, fs) => .inr (ci, fs.map (tv X))
def ws_ (X : Ev) (M : Hp) : va_W := M.mapIdx (fun i c => (ev_o X + i, te X c))
def csz : Cel → Nat
  | .inl (_, a) => a.1
  | .inr (_, fs) => fs.length
def sl (M : Hp) : Nat := (M.map csz).sum
theorem ta_1 (X : Ev) (a : vp_A) : (ta X a).1 = a.1 := by
  unfold ta; split <;> rfl
theorem tv_cat (X : Ev) (v : Value) : (tv X v).category = v.category := by
  cases v with
  | retAddr n => cases n <;> rfl
  | _ => rfl
theorem ws_get {X : Ev} {M : Hp} {i : Nat} {c : Cel} (h : M[i]? = some c) : (ws_ X M)[i]? = some (ev_o X + i, te X c) := by
  simp [ws_, h]
theorem ws_set {X : Ev} {M : Hp} {i : Nat} {c : Cel} : (ws_ X M).set i (ev_o X + i, te X c) = ws_ X (M.set i c) := by
  apply List.ext_getElem?
  intro j
  by_cases h : i = j
  · subst h
    by_cases hl : i < M.length
    · rw [List.getElem?_set_self (by simpa [ws_] using hl)]
      simp [ws_, hl]
    · rw [List.getElem?_eq_none (by simp [ws_]; omega), List.getElem?_eq_none (by simp [ws_]; omega)]
  · rw [List.getElem?_set_ne h]
    simp only [ws_, List.getElem?_mapIdx]
    rw [List.getElem?_set_ne h]
theorem ws_push {X : Ev} {M : Hp} {c : Cel} : ws_ X M ++ [(ev_o X + M.length, te X c)] = ws_ X (M ++ [c]) := by
  simp [ws_, List.mapIdx_append]
theorem ws_len {X : Ev} {M : Hp} : (ws_ X M).length = M.length := by simp [ws_]
theorem sl_push (M : Hp) (c : Cel) : sl (M ++ [c]) = sl M + csz c := by simp [sl]
theorem sl_set : ∀ (M : Hp) (i : Nat) (c c' : Cel), M[i]? = some c → csz c' = csz c → sl (M.set i c') = sl M
  | [], i, c, c', h, _ => by simp at h
  | a :: M, 0, c, c', h, e => by
    simp at h; subst h; simp [sl, e]
  | a :: M, i + 1, c, c', h, e => by
    have := sl_set M i c c' (by simpa using h) e
    simp only [sl, List.set_cons_succ, List.map_cons, List.sum_cons] at this ⊢
    omega
theorem ws_D (X : Ev) (M : Hp) : va_D (fun q => ev_o X ≤ q) (ws_ X M) := by
  have key : ∀ (k : Nat) (q : Nat × va_E), (ws_ X M)[k]? = some q → q.1 = ev_o X + k := by
    intro k q h
    simp only [ws_, List.getElem?_mapIdx] at h
    cases hm : M[k]? with
    | none => rw [hm] at h; cases h
    | some c => rw [hm] at h; cases h; rfl
  refine ⟨fun i j x y h1 h2 h3 => ?_, fun k q h => ?_⟩
  · have := key i x h1
    have := key j y h2
    omega
  · show ev_o X ≤ q.1
    rw [key k q h]; omega
def pols : Nat → Int32 := fun j => ([11, 19, 37, 67, 137, 285, 529, 1033, 2053, 4179, 8219] : List Int32).getD j 0
abbrev cls_ : List vw_C := [(RX0, TX0, 12), (RX2, TX2, 5), (RX3, TX3, 9), (RX4, TX4, 4), (RX5, TX5, 1), (RX6, TX6, 10), (RX7, TX7, 27)]
def tyl : List FieldType := [.int, .long, .boolean, .object "PageMender$Page"]
abbrev tys_ (X : Ev) : List (ClassId × FieldType) := [(ev_k X 0, .int), (ev_k X 1, .long), (ev_k X 2, .boolean), (ev_k X 3, .object "PageMender$Page")]
def gt : List Cond := lw_tbl.filter goodWord
abbrev Jt : Type := MethodName × ByteArray × Nat × Option FieldType
abbrev jw (J : Jt) : List Cond := .code J.1 J.2.1 J.2.2.1 J.2.2.2 :: gt
abbrev evA (X : Ev) : Nat → Prop := fun q => ev_o X ≤ q
def Ro (X : Ev) (U : State) : Prop := va_T .int (ev_b X) (ev_L X) (fun j => .int (ev_x X j)) (evA X) U U.heap ∧ va_T .int (ev_p X) 11 (fun j => .int (pols j)) (evA X) U U.heap ∧ va_Z "PageMender$Field" "POLYNOMIALS" "[I" (.ref (ev_p X)) (evA X) U U.heap ∧ va_AO "PageMender$Page" U
def Qk (X : Ev) (v : Option Value) (M' : Hp) : Array Value → State → Outcome → State → Prop := fun _ st oc t => (oc = .returned (v.map (tv X)) ∧ va_P (ev_D X) cls_ (ws_ X M') t.heap) ∧ va_F (evA X) st t
def Pk (X : Ev) (M : Hp) : State → Prop := fun U => va_P (ev_D X) cls_ (ws_ X M) U.heap ∧ va_K (ev_D X) cls_ (tys_ X) U ∧ U.heap.size = ev_o X + M.length ∧ Ro X U
def Le (M M' : Hp) : Prop := M.length ≤ M'.length ∧ sl M ≤ sl M'
theorem Le.rf (M : Hp) : Le M M := ⟨Nat.le_refl _, Nat.le_refl _⟩
theorem Le.tr {M M1 M2 : Hp} (h : Le M M1) (h2 : Le M1 M2) : Le M M2 := ⟨Nat.le_trans h.1 h2.1, Nat.le_trans h.2 h2.2⟩
/-- a method: from any start with these arguments and this heap it returns, with this answer and this heap; d levels of calls below it -/
def Cl (X : Ev) (d : Nat) (J : Jt) (as : List Value) (M : Hp) (v : Option Value) (M' : Hp) : Prop :=
  Le M M' ∧ Met (ev_l X) J.1 (jw J) { frames := d, cells := M'.length - M.length, slots := sl M' - sl M, locals := 28 * d } (va_Pc (as.map (tv X)) (Pk X M)) (Qk X v M') (M'.length - M.length) (sl M' - sl M) (evA X)
def lq (X : Ev) : Nat → List (Option Value) → List (Nat × Value)
  | _, [] => []
  | k, some v :: r => (k, tv X v) :: lq X (k + 1) r
  | k, none :: r => lq X (k + 1) r
theorem lq_mem (X : Ev) : ∀ (ls : List (Option Value)) (k : Nat) (q : Nat × Value), q ∈ lq X k ls ↔ ∃ i v, ls[i]? = some (some v) ∧ q = (k + i, tv X v)
  | [], k, q => by simp [lq]
  | some a :: r, k, q => by
    simp only [lq, List.mem_cons]
    rw [lq_mem X r (k + 1) q]
    constructor
    · rintro (rfl | ⟨i, v, h, rfl⟩)
      · exact ⟨0, a, by simp, by simp⟩
      · exact ⟨i + 1, v, by simpa using h, by congr 1; omega⟩
    · rintro ⟨i, v, h, rfl⟩
      cases i with
      | zero => left; simp at h; subst h; simp
      | succ i => right; exact ⟨i, v, by simpa using h, by congr 1; omega⟩
  | none :: r, k, q => by
    simp only [lq]
    rw [lq_mem X r (k + 1) q]
    constructor
    · rintro ⟨i, v, h, rfl⟩
      exact ⟨i + 1, v, by simpa using h, by congr 1; omega⟩
    · rintro ⟨i, v, h, rfl⟩
      cases i with
      | zero => simp at h
      | succ i => exact ⟨i, v, by simpa using h, by congr 1; omega⟩
def Ca (X : Ev) (d : Nat) (J : Jt) (M0 : Hp) (p : Program) (R : Room) (s : State) (m : MethodId) (args : Array Value) (meth : Method) (c : Code) : Prop :=
  p.tables.exec = Jvm.exec ∧ c.code = J.2.1 ∧ c.maxLocals = J.2.2.1 ∧ meth.sig.returnType = J.2.2.2 ∧ meth.locks = false ∧ (J.1.name = "<init>" → meth.name = "<init>") ∧ s.vm.findClass J.1.cls = some m.cls ∧ (∀ w ∈ gt, w.before args s = true) ∧ d ≤ R.frames ∧ 28 * d ≤ R.locals ∧ va_K (ev_D X) cls_ (tys_ X) s ∧ Ro X s ∧ s.heap.size = ev_o X + M0.length
def Cb (X : Ev) (J : Jt) (s : State) (M : Hp) (ls : List (Option Value)) (H : Heap) (locs : List Loc) (lsM : Array Slot) : Prop :=
  va_P (ev_D X) cls_ (ws_ X M) H ∧ va_S (evA X) s.heap H locs ∧ lv_has lsM J.2.2.1 (lq X 0 ls)
/-- the code of method J from pc on, with these locals, this stack and this heap: it comes to a return, with this answer and this heap -/
def G (X : Ev) (d : Nat) (J : Jt) (M0 : Hp) (pc : Nat) (ls : List (Option Value)) (st : List Value) (M : Hp) (v : Option Value) (M' : Hp) : Prop :=
  Le M M' ∧ (Le M0 M → ∀ (p : Program) (e : Env) (R : Room) (s : State) (m : MethodId) (args : Array Value) (below : List Frame) (meth : Method) (c : Code) (H : Heap) (locs : List Loc) (lsM : Array Slot), Ca X d J M0 p R s m args meth c → (M'.length - M0.length ≤ R.cells ∧ sl M' - sl M0 ≤ R.slots) → Cb X J s M ls H locs lsM →
    W p (ev_l X) e R s m args below meth c H locs (M.length - M0.length) (sl M - sl M0) (MQ below (Qk X v M') args s (M'.length - M0.length) (sl M' - sl M0) (evA X)) (F0 m pc lsM (st.map (tv X))))
section LOGIC
variable {X : Ev} {d : Nat} {J : Jt} {M0 M M' : Hp} {pc : Nat} {ls : List (Option Value)} {st : List Value} {v : Option Value}
theorem G.by1 {pc' : Nat} {ls' : List (Option Value)} {st' : List Value} (k : G X d J M0 pc' ls' st' M v M')
    (h : ∀ (p : Program) (e : Env) (R : Room) (s : State) (m : MethodId) (args : Array Value) (below : List Frame) (meth : Method) (c : Code) (H : Heap) (locs : List Loc) (lsM : Array Slot) (cells slots : Nat) (Q : State → Prop), Ca X d J M0 p R s m args meth c → Cb X J s M ls H locs lsM →
      (∀ lsM' : Array Slot, lv_has lsM' J.2.2.1 (lq X 0 ls') → W p (ev_l X) e R s m args below meth c H locs cells slots Q (F0 m pc' lsM' (st'.map (tv X)))) → W p (ev_l X) e R s m args below meth c H locs cells slots Q (F0 m pc lsM (st.map (tv X)))) : G X d J M0 pc ls st M v M' :=
  ⟨k.1, fun hL p e R s m args below meth c H locs lsM ha hr hb => h p e R s m args below meth c H locs lsM _ _ _ ha hb (fun lsM' hl' => k.2 hL p e R s m args below meth c H locs lsM' ha hr ⟨hb.1, hb.2.1, hl'⟩)⟩
/-- the heap changes in place -/
theorem G.by2 {M1 : Hp} {pc' : Nat} {st' : List Value} (k : G X d J M0 pc' ls st' M1 v M') (hlen : M1.length = M.length) (hsl : sl M1 = sl M)
    (h : ∀ (p : Program) (e : Env) (R : Room) (s : State) (m : MethodId) (args : Array Value) (below : List Frame) (meth : Method) (c : Code) (H : Heap) (locs : List Loc) (lsM : Array Slot) (cells slots : Nat) (Q : State → Prop), Ca X d J M0 p R s m args meth c → Cb X J s M ls H locs lsM →
      (∀ (H1 : Heap) (locs1 : List Loc), va_P (ev_D X) cls_ (ws_ X M1) H1 → va_S (evA X) s.heap H1 locs1 → W p (ev_l X) e R s m args below meth c H1 locs1 cells slots Q (F0 m pc' lsM (st'.map (tv X)))) → W p (ev_l X) e R s m args below meth c H locs cells slots Q (F0 m pc lsM (st.map (tv X)))) : G X d J M0 pc ls st M v M' := by
  refine ⟨⟨by rw [← hlen]; exact k.1.1, by rw [← hsl]; exact k.1.2⟩, fun hL p e R s m args below meth c H locs lsM ha hr hb => ?_⟩
  refine h p e R s m args below meth c H locs lsM _ _ _ ha hb (fun H1 locs1 hP hS => ?_)
  have := k.2 ⟨by rw [hlen]; exact hL.1, by rw [hsl]; exact hL.2⟩ p e R s m args below meth c H1 locs1 lsM ha hr ⟨hP, hS, hb.2.2⟩
  rw [hlen, hsl] at this
  exact this
theorem lv_keep {X : Ev} {J : Jt} {lsM : Array Slot} {ls : List (Option Value)} (h : lv_has lsM J.2.2.1 (lq X 0 ls)) {i : Nat} {v : Value} (hl : ls[i]? = some (some v)) : lsM[i]? = some (.val (tv X v)) :=
  h.2.2 (i, tv X v) ((lq_mem X ls 0 _).mpr ⟨i, v, hl, by simp⟩)
/-- fewer locals are known -/
theorem x_fewer {ls' : List (Option Value)} (h : ∀ (i : Nat) (w : Value), ls'[i]? = some (some w) → ls[i]? = some (some w)) (k : G X d J M0 pc ls' st M v M') : G X d J M0 pc ls st M v M' :=
  G.by1 k fun p e R s m args below meth c H locs lsM cells slots Q ha hb kk => kk lsM ⟨hb.2.2.1, hb.2.2.2.1, fun q hq => by
    obtain ⟨i, w, h1, rfl⟩ := (lq_mem X ls' 0 q).mp hq
    exact hb.2.2.2.2 _ ((lq_mem X ls 0 _).mpr ⟨i, w, h i w h1, rfl⟩)⟩

theorem x_iload {i : Nat} {x : Int32} (hd : decode J.2.1 pc = .ok (.iload i, 2)) (hl : ls[i]? = some (some (.int x))) (k : G X d J M0 (pc + 2) ls (.int x :: st) M v M') : G X d J M0 pc ls st M v M' :=
  G.by1 k fun p e R s m args below meth c H locs lsM cells slots Q ha hb kk => lv_iload ha.1 ha.2.1 hd (lv_keep hb.2.2 hl) (kk lsM hb.2.2)
theorem x_iload_n {j : Fin 4} {i : Nat} {x : Int32} (hd : decode J.2.1 pc = .ok (.iload_n j, 1)) (hi : (j : Nat) = i) (hl : ls[i]? = some (some (.int x))) (k : G X d J M0 (pc + 1) ls (.int x :: st) M v M') : G X d J M0 pc ls st M v M' :=
  G.by1 k fun p e R s m args below meth c H locs lsM cells slots Q ha hb kk => lv_iload_n ha.1 ha.2.1 hd hi (lv_keep hb.2.2 hl) (kk lsM hb.2.2)
theorem x_lload {i : Nat} {x : Int64} (hd : decode J.2.1 pc = .ok (.lload i, 2)) (hl : ls[i]? = some (some (.long x))) (k : G X d J M0 (pc + 2) ls (.long x :: st) M v M') : G X d J M0 pc ls st M v M' :=
  G.by1 k fun p e R s m args below meth c H locs lsM cells slots Q ha hb kk => lv_lload ha.1 ha.2.1 hd (lv_keep hb.2.2 hl) (kk lsM hb.2.2)
theorem x_lload_n {j : Fin 4} {i : Nat} {x : Int64} (hd : decode J.2.1 pc = .ok (.lload_n j, 1)) (hi : (j : Nat) = i) (hl : ls[i]? = some (some (.long x))) (k : G X d J M0 (pc + 1) ls (.long x :: st) M v M') : G X d J M0 pc ls st M v M' :=
  G.by1 k fun p e R s m args below meth c H locs lsM cells slots Q ha hb kk => lv_lload_n ha.1 ha.2.1 hd hi (lv_keep hb.2.2 hl) (kk lsM hb.2.2)
theorem x_aload {i : Nat} {x : Nat} (hd : decode J.2.1 pc = .ok (.aload i, 2)) (hl : ls[i]? = some (some (.ref x))) (k : G X d J M0 (pc + 2) ls (.ref x :: st) M v M') : G X d J M0 pc ls st M v M' :=
  G.by1 k fun p e R s m args below meth c H locs lsM cells slots Q ha hb kk => lv_aload ha.1 ha.2.1 hd (lv_keep hb.2.2 hl) (kk lsM hb.2.2)
theorem x_aload_n {j : Fin 4} {i : Nat} {x : Nat} (hd : decode J.2.1 pc = .ok (.aload_n j, 1)) (hi : (j : Nat) = i) (hl : ls[i]? = some (some (.ref x))) (k : G X d J M0 (pc + 1) ls (.ref x :: st) M v M') : G X d J M0 pc ls st M v M' :=
  G.by1 k fun p e R s m args below meth c H locs lsM cells slots Q ha hb kk => lv_aload_n ha.1 ha.2.1 hd hi (lv_keep hb.2.2 hl) (kk lsM hb.2.2)
theorem x_aload_s {j : Fin 4} {i : Nat} (hd : decode J.2.1 pc = .ok (.aload_n j, 1)) (hi : (j : Nat) = i) (hl : ls[i]? = some (some (.retAddr 0))) (k : G X d J M0 (pc + 1) ls (.retAddr 0 :: st) M v M') : G X d J M0 pc ls st M v M' :=
  G.by1 k fun p e R s m args below meth c H locs lsM cells slots Q ha hb kk => lv_aload_n ha.1 ha.2.1 hd hi (lv_keep hb.2.2 hl) (kk lsM hb.2.2)
def ok2 (ls : List (Option Value)) : Nat → Bool
  | 0 => true
  | i + 1 => match ls[i]? with
    | some (some w) => w.category == 1
    | _ => true
theorem lq_set1 {X : Ev} {ls : List (Option Value)} {i : Nat} {w : Value} (h2 : ok2 ls i = true) : ∀ q ∈ lq X 0 (ls.set i (some w)), q ∈ ((i, tv X w) :: (lq X 0 ls).filter (fun q => !(q.1 == i) && !(q.1 + 1 == i && q.2.category == 2))) := by
  intro q hq
  obtain ⟨j, u, hj, rfl⟩ := (lq_mem X _ 0 q).mp hq
  by_cases hij : i = j
  · subst hij
    by_cases hl : i < ls.length
    · rw [List.getElem?_set_self hl] at hj
      cases hj
      simp
    · rw [List.getElem?_eq_none (by simp; omega)] at hj
      cases hj
  · rw [List.getElem?_set_ne hij] at hj
    refine List.mem_cons_of_mem _ (List.mem_filter.mpr ⟨(lq_mem X ls 0 _).mpr ⟨j, u, hj, rfl⟩, ?_⟩)
    have h1 : (0 + j == i) = false := by simp; omega
    have h3 : (0 + j + 1 == i && (tv X u).category == 2) = false := by
      by_cases h4 : j + 1 = i
      · subst h4
        simp only [ok2, hj, beq_iff_eq] at h2
        rw [tv_cat, h2]; simp
      · simp; omega
    simp only [h1, h3]; rfl
theorem lq_set2 {X : Ev} {ls : List (Option Value)} {i : Nat} {w : Value} (h2 : ok2 ls i = true) : ∀ q ∈ lq X 0 ((ls.set i (some w)).set (i + 1) none), q ∈ ((i, tv X w) :: (lq X 0 ls).filter (fun q => !(q.1 == i) && (!(q.1 == i + 1) && !(q.1 + 1 == i && q.2.category == 2)))) := by
  intro q hq
  obtain ⟨j, u, hj, rfl⟩ := (lq_mem X _ 0 q).mp hq
  by_cases hij1 : i + 1 = j
  · subst hij1
    by_cases hl : i + 1 < ls.length
    · rw [List.getElem?_set_self (by simpa using hl)] at hj
      cases hj
    · rw [List.getElem?_eq_none (by simp; omega)] at hj
      cases hj
  · rw [List.getElem?_set_ne hij1] at hj
    have h5 := lq_set1 (X := X) (w := w) h2 (0 + j, tv X u) ((lq_mem X _ 0 _).mpr ⟨j, u, hj, rfl⟩)
    rcases List.mem_cons.mp h5 with h | h
    · rw [h]; exact List.mem_cons_self
    · refine List.mem_cons_of_mem _ ?_
      obtain ⟨ha, hb⟩ := List.mem_filter.mp h
      refine List.mem_filter.mpr ⟨ha, ?_⟩
      simp only [Bool.and_eq_true] at hb ⊢
      exact ⟨hb.1, by simp; omega, hb.2⟩
theorem lv_less {ls : Array Slot} {n : Nat} {l l' : List (Nat × Value)} (h : lv_has ls n l) (hs : ∀ q ∈ l', q ∈ l) : lv_has ls n l' := ⟨h.1, h.2.1, fun q hq => h.2.2 q (hs q hq)⟩
theorem x_istore {i : Nat} {x : Int32} {ls' : List (Option Value)} (hd : decode J.2.1 pc = .ok (.istore i, 2)) (hn : i < J.2.2.1) (h2 : ok2 ls i = true) (hs : ls.set i (some (.int x)) = ls') (k : G X d J M0 (pc + 2) ls' st M v M') : G X d J M0 pc ls (.int x :: st) M v M' :=
  G.by1 k fun p e R s m args below meth c H locs lsM cells slots Q ha hb kk => lv_istore ha.1 ha.2.1 hd hb.2.2 hn rfl (fun ls1 h1 => kk ls1 (lv_less h1 (by rw [← hs]; exact lq_set1 h2)))
theorem x_istore_n {j : Fin 4} {i : Nat} {x : Int32} {ls' : List (Option Value)} (hd : decode J.2.1 pc = .ok (.istore_n j, 1)) (hi : (j : Nat) = i) (hn : i < J.2.2.1) (h2 : ok2 ls i = true) (hs : ls.set i (some (.int x)) = ls') (k : G X d J M0 (pc + 1) ls' st M v M') : G X d J M0 pc ls (.int x :: st) M v M' :=
  G.by1 k fun p e R s m args below meth c H locs lsM cells slots Q ha hb kk => lv_istore_n ha.1 ha.2.1 hd hi hb.2.2 hn rfl (fun ls1 h1 => kk ls1 (lv_less h1 (by rw [← hs]; exact lq_set1 h2)))
theorem x_astore {i : Nat} {x : Nat} {ls' : List (Option Value)} (hd : decode J.2.1 pc = .ok (.astore i, 2)) (hn : i < J.2.2.1) (h2 : ok2 ls i = true) (hs : ls.set i (some (.ref x)) = ls') (k : G X d J M0 (pc + 2) ls' st M v M') : G X d J M0 pc ls (.ref x :: st) M v M' :=
  G.by1 k fun p e R s m args below meth c H locs lsM cells slots Q ha hb kk => lv_astore ha.1 ha.2.1 hd hb.2.2 hn rfl (fun ls1 h1 => kk ls1 (lv_less h1 (by rw [← hs]; exact lq_set1 h2)))
theorem x_astore_n {j : Fin 4} {i : Nat} {x : Nat} {ls' : List (Option Value)} (hd : decode J.2.1 pc = .ok (.astore_n j, 1)) (hi : (j : Nat) = i) (hn : i < J.2.2.1) (h2 : ok2 ls i = true) (hs : ls.set i (some (.ref x)) = ls') (k : G X d J M0 (pc + 1) ls' st M v M') : G X d J M0 pc ls (.ref x :: st) M v M' :=
  G.by1 k fun p e R s m args below meth c H locs lsM cells slots Q ha hb kk => lv_astore_n ha.1 ha.2.1 hd hi hb.2.2 hn rfl (fun ls1 h1 => kk ls1 (lv_less h1 (by rw [← hs]; exact lq_set1 h2)))
theorem x_lstore {i : Nat} {x : Int64} {ls' : List (Option Value)} (hd : decode J.2.1 pc = .ok (.lstore i, 2)) (hn : i + 1 < J.2.2.1) (h2 : ok2 ls i = true) (hs : (ls.set i (some (.long x))).set (i + 1) none = ls') (k : G X d J M0 (pc + 2) ls' st M v M') : G X d J M0 pc ls (.long x :: st) M v M' :=
  G.by1 k fun p e R s m args below meth c H locs lsM cells slots Q ha hb kk => lv_lstore ha.1 ha.2.1 hd hb.2.2 hn rfl (fun ls1 h1 => kk ls1 (lv_less h1 (by rw [← hs]; exact lq_set2 h2)))
theorem x_lstore_n {j : Fin 4} {i : Nat} {x : Int64} {ls' : List (Option Value)} (hd : decode J.2.1 pc = .ok (.lstore_n j, 1)) (hi : (j : Nat) = i) (hn : i + 1 < J.2.2.1) (h2 : ok2 ls i = true) (hs : (ls.set i (some (.long x))).set (i + 1) none = ls') (k : G X d J M0 (pc + 1) ls' st M v M') : G X d J M0 pc ls (.long x :: st) M v M' :=
  G.by1 k fun p e R s m args below meth c H locs lsM cells slots Q ha hb kk => lv_lstore_n ha.1 ha.2.1 hd hi hb.2.2 hn rfl (fun ls1 h1 => kk ls1 (lv_less h1 (by rw [← hs]; exact lq_set2 h2)))
theorem x_iinc {i : Nat} {n : Int} {x y : Int32} {ls' : List (Option Value)} (hd : decode J.2.1 pc = .ok (.iinc i n, 3)) (hn : i < J.2.2.1) (h2 : ok2 ls i = true) (hl : ls[i]? = some (some (.int x))) (hv : x + Int32.ofInt n = y) (hs : ls.set i (some (.int y)) = ls') (k : G X d J M0 (pc + 3) ls' st M v M') : G X d J M0 pc ls st M v M' :=
  G.by1 k fun p e R s m args below meth c H locs lsM cells slots Q ha hb kk => by
    obtain ⟨kx, hkx⟩ := List.getElem?_of_mem ((lq_mem X ls 0 (i, .int x)).mpr ⟨i, .int x, hl, by simp [tv]⟩)
    exact lv_iinc ha.1 ha.2.1 hd hb.2.2 hkx hv hn rfl (fun ls1 h1 => kk ls1 (lv_less h1 (by rw [← hs]; exact lq_set1 h2)))
theorem x_iconst {n : Int} {y : Int32} (hd : decode J.2.1 pc = .ok (.iconst n, 1)) (hv : Int32.ofInt n = y) (k : G X d J M0 (pc + 1) ls (.int y :: st) M v M') : G X d J M0 pc ls st M v M' :=
  G.by1 k fun p e R s m args below meth c H locs lsM cells slots Q ha hb kk => lv_iconst ha.1 ha.2.1 hd hv (kk lsM hb.2.2)
theorem x_bipush {n : Int} {y : Int32} (hd : decode J.2.1 pc = .ok (.bipush n, 2)) (hv : (Int8.ofInt n).toInt32 = y) (k : G X d J M0 (pc + 2) ls (.int y :: st) M v M') : G X d J M0 pc ls st M v M' :=
  G.by1 k fun p e R s m args below meth c H locs lsM cells slots Q ha hb kk => lv_bipush ha.1 ha.2.1 hd hv (kk lsM hb.2.2)
theorem x_sipush {n : Int} {y : Int32} (hd : decode J.2.1 pc = .ok (.sipush n, 3)) (hv : (Int16.ofInt n).toInt32 = y) (k : G X d J M0 (pc + 3) ls (.int y :: st) M v M') : G X d J M0 pc ls st M v M' :=
  G.by1 k fun p e R s m args below meth c H locs lsM cells slots Q ha hb kk => lv_sipush ha.1 ha.2.1 hd hv (kk lsM hb.2.2)
theorem x_lconst {n : Fin 2} {y : Int64} (hd : decode J.2.1 pc = .ok (.lconst n, 1)) (hv : Int64.ofNat (n : Nat) = y) (k : G X d J M0 (pc + 1) ls (.long y :: st) M v M') : G X d J M0 pc ls st M v M' :=
  G.by1 k fun p e R s m args below meth c H locs lsM cells slots Q ha hb kk => lv_lconst ha.1 ha.2.1 hd hv (kk lsM hb.2.2)
theorem x_ldc {i : Nat} {y : Int32} (hd : decode J.2.1 pc = .ok (.ldc i, 2)) (hw : Cond.constant J.1.cls i y ∈ gt) (k : G X d J M0 (pc + 2) ls (.int y :: st) M v M') : G X d J M0 pc ls st M v M' :=
  G.by1 k fun p e R s m args below meth c H locs lsM cells slots Q ha hb kk => lv_ldc ha.1 ha.2.1 ha.2.2.2.2.2.2.1 (ha.2.2.2.2.2.2.2.1 _ hw) hd (kk lsM hb.2.2)
theorem x_ldc2 {i : Nat} {y : Int64} (hd : decode J.2.1 pc = .ok (.ldc2_w i, 3)) (hw : Cond.constantLong J.1.cls i y ∈ gt) (k : G X d J M0 (pc + 3) ls (.long y :: st) M v M') : G X d J M0 pc ls st M v M' :=
  G.by1 k fun p e R s m args below meth c H locs lsM cells slots Q ha hb kk => lv_ldc2 ha.1 ha.2.1 ha.2.2.2.2.2.2.1 (ha.2.2.2.2.2.2.2.1 _ hw) hd (kk lsM hb.2.2)
theorem x_iadd {x y : Int32} (hd : decode J.2.1 pc = .ok (.iadd, 1)) (k : G X d J M0 (pc + 1) ls (.int (x + y) :: st) M v M') : G X d J M0 pc ls (.int y :: .int x :: st) M v M' :=
  G.by1 k fun p e R s m args below meth c H locs lsM cells slots Q ha hb kk => lv_iadd ha.1 ha.2.1 hd (kk lsM hb.2.2)
theorem x_isub {x y : Int32} (hd : decode J.2.1 pc = .ok (.isub, 1)) (k : G X d J M0 (pc + 1) ls (.int (x - y) :: st) M v M') : G X d J M0 pc ls (.int y :: .int x :: st) M v M' :=
  G.by1 k fun p e R s m args below meth c H locs lsM cells slots Q ha hb kk => lv_isub ha.1 ha.2.1 hd (kk lsM hb.2.2)
theorem x_imul {x y : Int32} (hd : decode J.2.1 pc = .ok (.imul, 1)) (k : G X d J M0 (pc + 1) ls (.int (x * y) :: st) M v M') : G X d J M0 pc ls (.int y :: .int x :: st) M v M' :=
  G.by1 k fun p e R s m args below meth c H locs lsM cells slots Q ha hb kk => lv_imul ha.1 ha.2.1 hd (kk lsM hb.2.2)
theorem x_iand {x y : Int32} (hd : decode J.2.1 pc = .ok (.iand, 1)) (k : G X d J M0 (pc + 1) ls (.int (x &&& y) :: st) M v M') : G X d J M0 pc ls (.int y :: .int x :: st) M v M' :=
  G.by1 k fun p e R s m args below meth c H locs lsM cells slots Q ha hb kk => lv_iand ha.1 ha.2.1 hd (kk lsM hb.2.2)
theorem x_ior {x y : Int32} (hd : decode J.2.1 pc = .ok (.ior, 1)) (k : G X d J M0 (pc + 1) ls (.int (x ||| y) :: st) M v M') : G X d J M0 pc ls (.int y :: .int x :: st) M v M' :=
  G.by1 k fun p e R s m args below meth c H locs lsM cells slots Q ha hb kk => lv_ior ha.1 ha.2.1 hd (kk lsM hb.2.2)
theorem x_ixor {x y : Int32} (hd : decode J.2.1 pc = .ok (.ixor, 1)) (k : G X d J M0 (pc + 1) ls (.int (x ^^^ y) :: st) M v M') : G X d J M0 pc ls (.int y :: .int x :: st) M v M' :=
  G.by1 k fun p e R s m args below meth c H locs lsM cells slots Q ha hb kk => lv_ixor ha.1 ha.2.1 hd (kk lsM hb.2.2)
theorem x_ishl {x y : Int32} (hd : decode J.2.1 pc = .ok (.ishl, 1)) (k : G X d J M0 (pc + 1) ls (.int (x <<< (y &&& 31)) :: st) M v M') : G X d J M0 pc ls (.int y :: .int x :: st) M v M' :=
  G.by1 k fun p e R s m args below meth c H locs lsM cells slots Q ha hb kk => lv_ishl ha.1 ha.2.1 hd (kk lsM hb.2.2)
theorem x_ishr {x y : Int32} (hd : decode J.2.1 pc = .ok (.ishr, 1)) (k : G X d J M0 (pc + 1) ls (.int (x >>> (y &&& 31)) :: st) M v M') : G X d J M0 pc ls (.int y :: .int x :: st) M v M' :=
  G.by1 k fun p e R s m args below meth c H locs lsM cells slots Q ha hb kk => lv_ishr ha.1 ha.2.1 hd (kk lsM hb.2.2)
theorem x_idiv {x y : Int32} (hd : decode J.2.1 pc = .ok (.idiv, 1)) (hne : ¬ y = 0) (k : G X d J M0 (pc + 1) ls (.int (x / y) :: st) M v M') : G X d J M0 pc ls (.int y :: .int x :: st) M v M' :=
  G.by1 k fun p e R s m args below meth c H locs lsM cells slots Q ha hb kk => lv_idiv ha.1 ha.2.1 hd hne (kk lsM hb.2.2)
theorem x_irem {x y : Int32} (hd : decode J.2.1 pc = .ok (.irem, 1)) (hne : ¬ y = 0) (k : G X d J M0 (pc + 1) ls (.int (x - x / y * y) :: st) M v M') : G X d J M0 pc ls (.int y :: .int x :: st) M v M' :=
  G.by1 k fun p e R s m args below meth c H locs lsM cells slots Q ha hb kk => lv_irem ha.1 ha.2.1 hd hne (kk lsM hb.2.2)
theorem x_ladd {x y : Int64} (hd : decode J.2.1 pc = .ok (.ladd, 1)) (k : G X d J M0 (pc + 1) ls (.long (x + y) :: st) M v M') : G X d J M0 pc ls (.long y :: .long x :: st) M v M' :=
  G.by1 k fun p e R s m args below meth c H locs lsM cells slots Q ha hb kk => lv_ladd ha.1 ha.2.1 hd (kk lsM hb.2.2)
theorem x_lsub {x y : Int64} (hd : decode J.2.1 pc = .ok (.lsub, 1)) (k : G X d J M0 (pc + 1) ls (.long (x - y) :: st) M v M') : G X d J M0 pc ls (.long y :: .long x :: st) M v M' :=
  G.by1 k fun p e R s m args below meth c H locs lsM cells slots Q ha hb kk => lv_lsub ha.1 ha.2.1 hd (kk lsM hb.2.2)
theorem x_lmul {x y : Int64} (hd : decode J.2.1 pc = .ok (.lmul, 1)) (k : G X d J M0 (pc + 1) ls (.long (x * y) :: st) M v M') : G X d J M0 pc ls (.long y :: .long x :: st) M v M' :=
  G.by1 k fun p e R s m args below meth c H locs lsM cells slots Q ha hb kk => lv_lmul ha.1 ha.2.1 hd (kk lsM hb.2.2)
theorem x_land {x y : Int64} (hd : decode J.2.1 pc = .ok (.land, 1)) (k : G X d J M0 (pc + 1) ls (.long (x &&& y) :: st) M v M') : G X d J M0 pc ls (.long y :: .long x :: st) M v M' :=
  G.by1 k fun p e R s m args below meth c H locs lsM cells slots Q ha hb kk => lv_land ha.1 ha.2.1 hd (kk lsM hb.2.2)
theorem x_lor {x y : Int64} (hd : decode J.2.1 pc = .ok (.lor, 1)) (k : G X d J M0 (pc + 1) ls (.long (x ||| y) :: st) M v M') : G X d J M0 pc ls (.long y :: .long x :: st) M v M' :=
  G.by1 k fun p e R s m args below meth c H locs lsM cells slots Q ha hb kk => lv_lor ha.1 ha.2.1 hd (kk lsM hb.2.2)
theorem x_lxor {x y : Int64} (hd : decode J.2.1 pc = .ok (.lxor, 1)) (k : G X d J M0 (pc + 1) ls (.long (x ^^^ y) :: st) M v M') : G X d J M0 pc ls (.long y :: .long x :: st) M v M' :=
  G.by1 k fun p e R s m args below meth c H locs lsM cells slots Q ha hb kk => lv_lxor ha.1 ha.2.1 hd (kk lsM hb.2.2)
theorem x_lrem {x y : Int64} (hd : decode J.2.1 pc = .ok (.lrem, 1)) (hne : ¬ y = 0) (k : G X d J M0 (pc + 1) ls (.long (x - x / y * y) :: st) M v M') : G X d J M0 pc ls (.long y :: .long x :: st) M v M' :=
  G.by1 k fun p e R s m args below meth c H locs lsM cells slots Q ha hb kk => lv_lrem ha.1 ha.2.1 hd hne (kk lsM hb.2.2)
theorem x_lneg {x : Int64} (hd : decode J.2.1 pc = .ok (.lneg, 1)) (k : G X d J M0 (pc + 1) ls (.long (-x) :: st) M v M') : G X d J M0 pc ls (.long x :: st) M v M' :=
  G.by1 k fun p e R s m args below meth c H locs lsM cells slots Q ha hb kk => lv_lneg ha.1 ha.2.1 hd (kk lsM hb.2.2)
theorem x_i2l {x : Int32} (hd : decode J.2.1 pc = .ok (.i2l, 1)) (k : G X d J M0 (pc + 1) ls (.long x.toInt64 :: st) M v M') : G X d J M0 pc ls (.int x :: st) M v M' :=
  G.by1 k fun p e R s m args below meth c H locs lsM cells slots Q ha hb kk => lv_i2l ha.1 ha.2.1 hd rfl (kk lsM hb.2.2)
theorem x_l2i {x : Int64} (hd : decode J.2.1 pc = .ok (.l2i, 1)) (k : G X d J M0 (pc + 1) ls (.int x.toInt32 :: st) M v M') : G X d J M0 pc ls (.long x :: st) M v M' :=
  G.by1 k fun p e R s m args below meth c H locs lsM cells slots Q ha hb kk => lv_l2i ha.1 ha.2.1 hd rfl (kk lsM hb.2.2)
theorem x_lcmp {x y : Int64} (hd : decode J.2.1 pc = .ok (.lcmp, 1)) (k : G X d J M0 (pc + 1) ls (.int (lg_cmp x y) :: st) M v M') : G X d J M0 pc ls (.long y :: .long x :: st) M v M' :=
  G.by1 k fun p e R s m args below meth c H locs lsM cells slots Q ha hb kk => W.lcmp ha.1 ha.2.1 hd (kk lsM hb.2.2)
theorem x_lushr {x : Int64} {y : Int32} (hd : decode J.2.1 pc = .ok (.lushr, 1)) (k : G X d J M0 (pc + 1) ls (.long ((x.toUInt64 >>> (y.toInt64.toUInt64 &&& Int64.toUInt64 63)).toInt64) :: st) M v M') : G X d J M0 pc ls (.int y :: .long x :: st) M v M' :=
  G.by1 k fun p e R s m args below meth c H locs lsM cells slots Q ha hb kk => lv_lushr ha.1 ha.2.1 hd rfl (kk lsM hb.2.2)
theorem x_lshl {x : Int64} {y : Int32} (hd : decode J.2.1 pc = .ok (.lshl, 1)) (k : G X d J M0 (pc + 1) ls (.long (x <<< (y.toInt64 &&& 63)) :: st) M v M') : G X d J M0 pc ls (.int y :: .long x :: st) M v M' :=
  G.by1 k fun p e R s m args below meth c H locs lsM cells slots Q ha hb kk => lv_lshl ha.1 ha.2.1 hd rfl (kk lsM hb.2.2)
theorem x_lshr {x : Int64} {y : Int32} (hd : decode J.2.1 pc = .ok (.lshr, 1)) (k : G X d J M0 (pc + 1) ls (.long (x >>> (y.toInt64 &&& 63)) :: st) M v M') : G X d J M0 pc ls (.int y :: .long x :: st) M v M' :=
  G.by1 k fun p e R s m args below meth c H locs lsM cells slots Q ha hb kk => lv_lshr ha.1 ha.2.1 hd rfl (kk lsM hb.2.2)
theorem x_dup {a : Value} (hd : decode J.2.1 pc = .ok (.dup, 1)) (hc : a.category = 1) (k : G X d J M0 (pc + 1) ls (a :: a :: st) M v M') : G X d J M0 pc ls (a :: st) M v M' :=
  G.by1 k fun p e R s m args below meth c H locs lsM cells slots Q ha hb kk => lv_dup ha.1 ha.2.1 hd ((tv_cat X a).trans hc) (kk lsM hb.2.2)
theorem x_pop {a : Value} (hd : decode J.2.1 pc = .ok (.pop, 1)) (hc : a.category = 1) (k : G X d J M0 (pc + 1) ls st M v M') : G X d J M0 pc ls (a :: st) M v M' :=
  G.by1 k fun p e R s m args below meth c H locs lsM cells slots Q ha hb kk => lv_pop ha.1 ha.2.1 hd ((tv_cat X a).trans hc) (kk lsM hb.2.2)
theorem x_dup2 {a b : Value} (hd : decode J.2.1 pc = .ok (.dup2, 1)) (hc : a.category = 1) (hc2 : b.category = 1) (k : G X d J M0 (pc + 1) ls (a :: b :: a :: b :: st) M v M') : G X d J M0 pc ls (a :: b :: st) M v M' :=
  G.by1 k fun p e R s m args below meth c H locs lsM cells slots Q ha hb kk => lv_dup2_11 ha.1 ha.2.1 hd ((tv_cat X a).trans hc) ((tv_cat X b).trans hc2) (kk lsM hb.2.2)
theorem x_goto {off : Int} {tgt : Nat} (hd : decode J.2.1 pc = .ok (.goto off, 3)) (ht : (pc : Int) + off = (tgt : Int)) (k : G X d J M0 tgt ls st M v M') : G X d J M0 pc ls st M v M' :=
  G.by1 k fun p e R s m args below meth c H locs lsM cells slots Q ha hb kk => lv_goto ha.1 ha.2.1 hd ht (kk lsM hb.2.2)
theorem x_if_eq {x : Int32} {off : Int} {tgt : Nat} (hd : decode J.2.1 pc = .ok (.ifCond .eq off, 3)) (ht : (pc : Int) + off = (tgt : Int)) (kt : x = 0 → G X d J M0 tgt ls st M v M') (kf : ¬ x = 0 → G X d J M0 (pc + 3) ls st M v M') : G X d J M0 pc ls (.int x :: st) M v M' := by
  by_cases hc : x = 0
  · exact G.by1 (kt hc) fun p e R s m args below meth c H locs lsM cells slots Q ha hb kk => lv_if_eq ha.1 ha.2.1 hd ht (fun _ => kk lsM hb.2.2) (fun h => absurd hc (by first | exact h | exact fun z => z h))
  · have hc' : ¬ x = 0 := by first | exact hc | exact Classical.byContradiction hc
    exact G.by1 (kf hc') fun p e R s m args below meth c H locs lsM cells slots Q ha hb kk => lv_if_eq ha.1 ha.2.1 hd ht (fun h => absurd h hc) (fun _ => kk lsM hb.2.2)
theorem x_icmp_eq {x y : Int32} {off : Int} {tgt : Nat} (hd : decode J.2.1 pc = .ok (.if_icmp .eq off, 3)) (ht : (pc : Int) + off = (tgt : Int)) (kt : x = y → G X d J M0 tgt ls st M v M') (kf : ¬ x = y → G X d J M0 (pc + 3) ls st M v M') : G X d J M0 pc ls (.int y :: .int x :: st) M v M' := by
  by_cases hc : x = y
  · exact G.by1 (kt hc) fun p e R s m args below meth c H locs lsM cells slots Q ha hb kk => lv_icmp_eq ha.1 ha.2.1 hd ht (fun _ => kk lsM hb.2.2) (fun h => absurd hc (by first | exact h | exact fun z => z h))
  · have hc' : ¬ x = y := by first | exact hc | exact Classical.byContradiction hc
    exact G.by1 (kf hc') fun p e R s m args below meth c H locs lsM cells slots Q ha hb kk => lv_icmp_eq ha.1 ha.2.1 hd ht (fun h => absurd h hc) (fun _ => kk lsM hb.2.2)
theorem x_if_ne {x : Int32} {off : Int} {tgt : Nat} (hd : decode J.2.1 pc = .ok (.ifCond .ne off, 3)) (ht : (pc : Int) + off = (tgt : Int)) (kt : ¬ x = 0 → G X d J M0 tgt ls st M v M') (kf : x = 0 → G X d J M0 (pc + 3) ls st M v M') : G X d J M0 pc ls (.int x :: st) M v M' := by
  by_cases hc : ¬ x = 0
  · exact G.by1 (kt hc) fun p e R s m args below meth c H locs lsM cells slots Q ha hb kk => lv_if_ne ha.1 ha.2.1 hd ht (fun _ => kk lsM hb.2.2) (fun h => absurd hc (by first | exact h | exact fun z => z h))
  · have hc' : x = 0 := by first | exact hc | exact Classical.byContradiction hc
    exact G.by1 (kf hc') fun p e R s m args below meth c H locs lsM cells slots Q ha hb kk => lv_if_ne ha.1 ha.2.1 hd ht (fun h => absurd h hc) (fun _ => kk lsM hb.2.2)
theorem x_icmp_ne {x y : Int32} {off : Int} {tgt : Nat} (hd : decode J.2.1 pc = .ok (.if_icmp .ne off, 3)) (ht : (pc : Int) + off = (tgt : Int)) (kt : ¬ x = y → G X d J M0 tgt ls st M v M') (kf : x = y → G X d J M0 (pc + 3) ls st M v M') : G X d J M0 pc ls (.int y :: .int x :: st) M v M' := by
  by_cases hc : ¬ x = y
  · exact G.by1 (kt hc) fun p e R s m args below meth c H locs lsM cells slots Q ha hb kk => lv_icmp_ne ha.1 ha.2.1 hd ht (fun _ => kk lsM hb.2.2) (fun h => absurd hc (by first | exact h | exact fun z => z h))
  · have hc' : x = y := by first | exact hc | exact Classical.byContradiction hc
    exact G.by1 (kf hc') fun p e R s m args below meth c H locs lsM cells slots Q ha hb kk => lv_icmp_ne ha.1 ha.2.1 hd ht (fun h => absurd h hc) (fun _ => kk lsM hb.2.2)
theorem x_if_lt {x : Int32} {off : Int} {tgt : Nat} (hd : decode J.2.1 pc = .ok (.ifCond .lt off, 3)) (ht : (pc : Int) + off = (tgt : Int)) (kt : x < 0 → G X d J M0 tgt ls st M v M') (kf : ¬ x < 0 → G X d J M0 (pc + 3) ls st M v M') : G X d J M0 pc ls (.int x :: st) M v M' := by
  by_cases hc : x < 0
  · exact G.by1 (kt hc) fun p e R s m args below meth c H locs lsM cells slots Q ha hb kk => lv_if_lt ha.1 ha.2.1 hd ht (fun _ => kk lsM hb.2.2) (fun h => absurd hc (by first | exact h | exact fun z => z h))
  · have hc' : ¬ x < 0 := by first | exact hc | exact Classical.byContradiction hc
    exact G.by1 (kf hc') fun p e R s m args below meth c H locs lsM cells slots Q ha hb kk => lv_if_lt ha.1 ha.2.1 hd ht (fun h => absurd h hc) (fun _ => kk lsM hb.2.2)
theorem x_icmp_lt {x y : Int32} {off : Int} {tgt : Nat} (hd : decode J.2.1 pc = .ok (.if_icmp .lt off, 3)) (ht : (pc : Int) + off = (tgt : Int)) (kt : x < y → G X d J M0 tgt ls st M v M') (kf : ¬ x < y → G X d J M0 (pc + 3) ls st M v M') : G X d J M0 pc ls (.int y :: .int x :: st) M v M' := by
  by_cases hc : x < y
  · exact G.by1 (kt hc) fun p e R s m args below meth c H locs lsM cells slots Q ha hb kk => lv_icmp_lt ha.1 ha.2.1 hd ht (fun _ => kk lsM hb.2.2) (fun h => absurd hc (by first | exact h | exact fun z => z h))
  · have hc' : ¬ x < y := by first | exact hc | exact Classical.byContradiction hc
    exact G.by1 (kf hc') fun p e R s m args below meth c H locs lsM cells slots Q ha hb kk => lv_icmp_lt ha.1 ha.2.1 hd ht (fun h => absurd h hc) (fun _ => kk lsM hb.2.2)
theorem x_if_ge {x : Int32} {off : Int} {tgt : Nat} (hd : decode J.2.1 pc = .ok (.ifCond .ge off, 3)) (ht : (pc : Int) + off = (tgt : Int)) (kt : 0 ≤ x → G X d J M0 tgt ls st M v M') (kf : ¬ 0 ≤ x → G X d J M0 (pc + 3) ls st M v M') : G X d J M0 pc ls (.int x :: st) M v M' := by
  by_cases hc : 0 ≤ x
  · exact G.by1 (kt hc) fun p e R s m args below meth c H locs lsM cells slots Q ha hb kk => lv_if_ge ha.1 ha.2.1 hd ht (fun _ => kk lsM hb.2.2) (fun h => absurd hc (by first | exact h | exact fun z => z h))
  · have hc' : ¬ 0 ≤ x := by first | exact hc | exact Classical.byContradiction hc
    exact G.by1 (kf hc') fun p e R s m args below meth c H locs lsM cells slots Q ha hb kk => lv_if_ge ha.1 ha.2.1 hd ht (fun h => absurd h hc) (fun _ => kk lsM hb.2.2)
theorem x_icmp_ge {x y : Int32} {off : Int} {tgt : Nat} (hd : decode J.2.1 pc = .ok (.if_icmp .ge off, 3)) (ht : (pc : Int) + off = (tgt : Int)) (kt : y ≤ x → G X d J M0 tgt ls st M v M') (kf : ¬ y ≤ x → G X d J M0 (pc + 3) ls st M v M') : G X d J M0 pc ls (.int y :: .int x :: st) M v M' := by
  by_cases hc : y ≤ x
  · exact G.by1 (kt hc) fun p e R s m args below meth c H locs lsM cells slots Q ha hb kk => lv_icmp_ge ha.1 ha.2.1 hd ht (fun _ => kk lsM hb.2.2) (fun h => absurd hc (by first | exact h | exact fun z => z h))
  · have hc' : ¬ y ≤ x := by first | exact hc | exact Classical.byContradiction hc
    exact G.by1 (kf hc') fun p e R s m args below meth c H locs lsM cells slots Q ha hb kk => lv_icmp_ge ha.1 ha.2.1 hd ht (fun h => absurd h hc) (fun _ => kk lsM hb.2.2)
theorem x_if_gt {x : Int32} {off : Int} {tgt : Nat} (hd : decode J.2.1 pc = .ok (.ifCond .gt off, 3)) (ht : (pc : Int) + off = (tgt : Int)) (kt : 0 < x → G X d J M0 tgt ls st M v M') (kf : ¬ 0 < x → G X d J M0 (pc + 3) ls st M v M') : G X d J M0 pc ls (.int x :: st) M v M' := by
  by_cases hc : 0 < x
  · exact G.by1 (kt hc) fun p e R s m args below meth c H locs lsM cells slots Q ha hb kk => lv_if_gt ha.1 ha.2.1 hd ht (fun _ => kk lsM hb.2.2) (fun h => absurd hc (by first | exact h | exact fun z => z h))
  · have hc' : ¬ 0 < x := by first | exact hc | exact Classical.byContradiction hc
    exact G.by1 (kf hc') fun p e R s m args below meth c H locs lsM cells slots Q ha hb kk => lv_if_gt ha.1 ha.2.1 hd ht (fun h => absurd h hc) (fun _ => kk lsM hb.2.2)
theorem x_icmp_gt {x y : Int32} {off : Int} {tgt : Nat} (hd : decode J.2.1 pc = .ok (.if_icmp .gt off, 3)) (ht : (pc : Int) + off = (tgt : Int)) (kt : y < x → G X d J M0 tgt ls st M v M') (kf : ¬ y < x → G X d J M0 (pc + 3) ls st M v M') : G X d J M0 pc ls (.int y :: .int x :: st) M v M' := by
  by_cases hc : y < x
  · exact G.by1 (kt hc) fun p e R s m args below meth c H locs lsM cells slots Q ha hb kk => lv_icmp_gt ha.1 ha.2.1 hd ht (fun _ => kk lsM hb.2.2) (fun h => absurd hc (by first | exact h | exact fun z => z h))
  · have hc' : ¬ y < x := by first | exact hc | exact Classical.byContradiction hc
    exact G.by1 (kf hc') fun p e R s m args below meth c H locs lsM cells slots Q ha hb kk => lv_icmp_gt ha.1 ha.2.1 hd ht (fun h => absurd h hc) (fun _ => kk lsM hb.2.2)
theorem x_if_le {x : Int32} {off : Int} {tgt : Nat} (hd : decode J.2.1 pc = .ok (.ifCond .le off, 3)) (ht : (pc : Int) + off = (tgt : Int)) (kt : x ≤ 0 → G X d J M0 tgt ls st M v M') (kf : ¬ x ≤ 0 → G X d J M0 (pc + 3) ls st M v M') : G X d J M0 pc ls (.int x :: st) M v M' := by
  by_cases hc : x ≤ 0
  · exact G.by1 (kt hc) fun p e R s m args below meth c H locs lsM cells slots Q ha hb kk => lv_if_le ha.1 ha.2.1 hd ht (fun _ => kk lsM hb.2.2) (fun h => absurd hc (by first | exact h | exact fun z => z h))
  · have hc' : ¬ x ≤ 0 := by first | exact hc | exact Classical.byContradiction hc
    exact G.by1 (kf hc') fun p e R s m args below meth c H locs lsM cells slots Q ha hb kk => lv_if_le ha.1 ha.2.1 hd ht (fun h => absurd h hc) (fun _ => kk lsM hb.2.2)
theorem x_icmp_le {x y : Int32} {off : Int} {tgt : Nat} (hd : decode J.2.1 pc = .ok (.if_icmp .le off, 3)) (ht : (pc : Int) + off = (tgt : Int)) (kt : x ≤ y → G X d J M0 tgt ls st M v M') (kf : ¬ x ≤ y → G X d J M0 (pc + 3) ls st M v M') : G X d J M0 pc ls (.int y :: .int x :: st) M v M' := by
  by_cases hc : x ≤ y
  · exact G.by1 (kt hc) fun p e R s m args below meth c H locs lsM cells slots Q ha hb kk => lv_icmp_le ha.1 ha.2.1 hd ht (fun _ => kk lsM hb.2.2) (fun h => absurd hc (by first | exact h | exact fun z => z h))
  · have hc' : ¬ x ≤ y := by first | exact hc | exact Classical.byContradiction hc
    exact G.by1 (kf hc') fun p e R s m args below meth c H locs lsM cells slots Q ha hb kk => lv_icmp_le ha.1 ha.2.1 hd ht (fun h => absurd h hc) (fun _ => kk lsM hb.2.2)
theorem x_tabIn {dflt lo hi : Int} {offs : Array Int} {len : Nat} {x : Int32} {off : Int} {tgt : Nat} (hd : decode J.2.1 pc = .ok (.tableswitch dflt lo hi offs, len)) (h1 : ¬ x.toInt < lo) (h2 : ¬ hi < x.toInt) (ho : offs[(x.toInt - lo).toNat]? = some off) (ht : (pc : Int) + off = (tgt : Int)) (k : G X d J M0 tgt ls st M v M') : G X d J M0 pc ls (.int x :: st) M v M' :=
  G.by1 k fun p e R s m args below meth c H locs lsM cells slots Q ha hb kk => lv_tableIn ha.1 ha.2.1 hd h1 h2 ho ht (kk lsM hb.2.2)
theorem x_tabOut {dflt lo hi : Int} {offs : Array Int} {len : Nat} {x : Int32} {tgt : Nat} (hd : decode J.2.1 pc = .ok (.tableswitch dflt lo hi offs, len)) (h : x.toInt < lo ∨ hi < x.toInt) (ht : (pc : Int) + dflt = (tgt : Int)) (k : G X d J M0 tgt ls st M v M') : G X d J M0 pc ls (.int x :: st) M v M' :=
  G.by1 k fun p e R s m args below meth c H locs lsM cells slots Q ha hb kk => lv_tableOut ha.1 ha.2.1 hd h ht (kk lsM hb.2.2)
end LOGIC
end
section
theorem W.sz {p : Program} {l : Launch} {e : Env} {R : Room} {s : State} {m : MethodId} {args : Array Value} {below : List Frame} {meth : Method} {c : Code} {H : Heap} {locs : List Loc} {cells slots : Nat} {Q : State → Prop} {g : JFrame} (k : H.size ≤ s.heap.size + cells → W p l e R s m args below meth c H locs cells slots Q g) : W p l e R s m args below meth c H locs cells slots Q g :=
  fun T hT X => k (by rw [← hT]; exact X.same.2.2.1) T hT X
theorem hp_ge {X : Ev} {M : Hp} {H H0 : Heap} {locs : List Loc} (hP : va_P (ev_D X) cls_ (ws_ X M) H) (hS : va_S (evA X) H0 H locs) (h0 : ev_o X ≤ H0.size) : ev_o X + M.length ≤ H.size := by
  cases hM : M.length with
  | zero => exact Nat.le_trans h0 hS.1
  | succ n =>
    have hn : n < M.length := by omega
    have := (hP n _ (ws_get (X := X) (List.getElem?_eq_getElem hn))).lt
    have h3 : ev_o X + n < H.size := this
    omega
theorem gt_good {w : Cond} (h : w ∈ gt) : (w.onTables && w.keeps) = true ∨ ∃ ty, w = .arrayClass ty := good_of_word (List.mem_filter.mp h).2
theorem gt_in {ws : List Cond} (h : ∀ w ∈ ws, w ∈ gt) : GoodIn gt ws := fun w hw => ⟨h w hw, gt_good (h w hw)⟩
theorem Ro.at {X : Ev} {s U : State} {H : Heap} {locs : List Loc} (h : Ro X s) (hS : va_S (evA X) s.heap H locs) (hU : U.heap = H) (hA : s.vm.Alike U.vm) : Ro X U := by
  obtain ⟨h1, h2, h3, h4⟩ := h
  unfold Ro
  rw [hU]
  exact ⟨(h1.moved hA).kept hS.2.1, (h2.moved hA).kept hS.2.1, (h3.moved hA).kept hS.2.1, h4.moved hA⟩
theorem Pk.blind (X : Ev) (M : Hp) (as : List Value) : FrameBlind (va_Pc as (Pk X M)) := by
  intro a U g mk q
  obtain ⟨q0, qP, qK, qz, qR⟩ := q
  exact ⟨q0, qP, va_K.moved (u := U) (U := U.calling g mk a) (Vm.Alike.refl U.vm) qK, qz, Ro.at (s := U) (H := U.heap) (locs := []) qR va_S.rf rfl (Vm.Alike.refl U.vm)⟩
theorem va_callk {X : Ev} {r : Option Value} {M1 : Hp} {p : Program} {l : Launch} {e : Env} {R : Room} {s : State} {m : MethodId} {args : Array Value} {below : List Frame} {meth : Method} {c : Code} {H : Heap} {locs : List Loc} {cells slots : Nat} {Q : State → Prop} {pc : Nat} {ls : Array Slot} {rest st0 : List Value} {a : Array Value} {H0 : Heap} {mc ms : Nat}
    (hr : va_Run p l e R s m args below meth c H locs cells slots mc ms (F0 m pc ls st0) rest (Qk X r M1 a) (evA X)) (hS : va_S (evA X) H0 H locs)
    (kk : ∀ (H1 : Heap) (locs1 : List Loc), va_P (ev_D X) cls_ (ws_ X M1) H1 → va_S (evA X) H0 H1 locs1 → W p l e R s m args below meth c H1 locs1 (cells + mc) (slots + ms) Q (F0 m (pc + 3) ls ((r.map (tv X)).toList ++ rest))) : W p l e R s m args below meth c H locs cells slots Q (F0 m pc ls st0) := by
  intro T hT Y
  obtain ⟨v, st₀, t, T', L, h0, Y', hL, e1, e2, ⟨⟨hv, hp⟩, hz, hk⟩, st⟩ := hr T hT Y
  cases hv
  rw [h0] at hz hk
  obtain ⟨t2, a1, b1⟩ := kk T'.heap (locs ++ L) (by rw [e1]; exact hp)
    ⟨Nat.le_trans hS.1 (by rw [e1]; exact hz), fun q h1 h2 => by rw [e1, hk q (Nat.lt_of_lt_of_le h1 hS.1) h2]; exact hS.2.1 q h1 h2, fun q hq => by
      rcases List.mem_append.mp hq with h | h
      · exact hS.2.2 q h
      · exact hL q h⟩ T' rfl Y'
  exact ⟨t2, st t2 a1, b1⟩
section HEAPROWS
variable {X : Ev} {d : Nat} {J : Jt} {M0 M M' : Hp} {pc : Nat} {ls : List (Option Value)} {st : List Value} {v : Option Value}
theorem x_getf {i ci kf a : Nat} {fs : List Value} {w : Value} {C : String} {T : u_T} {N : Nat} (hd : decode J.2.1 pc = .ok (.getfield i, 3)) (hc : cls_[ci]? = some (C, T, N)) (hu : ∀ w ∈ u_ws C T N, w ∈ gt) (hk : kf < N) (hlk : Cond.fieldLink J.1.cls i (T kf).1 (T kf).2.1 (T kf).2.2.1 ∈ gt)
    (hM : M[a]? = some (.inr (ci, fs))) (hv : fs[kf]? = some w) (k : G X d J M0 (pc + 3) ls (w :: st) M v M') : G X d J M0 pc ls (.ref a :: st) M v M' :=
  G.by1 k fun p e R s m args below meth c H locs lsM cells slots Q ha hb kk => va_get (D := ev_D X) ha.1 ha.2.1 ha.2.2.2.2.2.2.2.1 hu ha.2.2.2.2.2.2.1 ha.2.2.2.2.2.2.2.2.2.2.1 hb.1 a (ws_get hM) hc kf hk (ha.2.2.2.2.2.2.2.1 _ hlk) (fun _ h => h) (v := tv X w) (by rw [List.getElem?_map, hv]; rfl) hd (kk lsM hb.2.2)
theorem x_putf {i ci kf a : Nat} {fs : List Value} {w : Value} {C : String} {T : u_T} {N : Nat} {ty0 : Nat → FieldType} {ty : FieldType} {M1 : Hp} (hd : decode J.2.1 pc = .ok (.putfield i, 3)) (hc : cls_[ci]? = some (C, T, N)) (hu : ∀ w ∈ u_ws C T N, w ∈ gt) (hty : ∀ k, k < N → parseFieldDescriptor (T k).2.2.1 = some (ty0 k)) (hnm : ∀ a, a < N → ∀ b, b < N → a ≠ b → (T a).2.1 ≠ (T b).2.1) (hk : kf < N) (hlk : Cond.fieldLink J.1.cls i (T kf).1 (T kf).2.1 (T kf).2.2.1 ∈ gt)
    (hfin : (T kf).2.2.2 = false) (hdt : parseFieldDescriptor (T kf).2.2.1 = some ty) (hn : narrow ty (tv X w) = tv X w) (hfit : fits ty (tv X w) = true) (hM : M[a]? = some (.inr (ci, fs))) (hl : kf < fs.length) (hM1 : M.set a (.inr (ci, fs.set kf w)) = M1) (k : G X d J M0 (pc + 3) ls st M1 v M') : G X d J M0 pc ls (w :: .ref a :: st) M v M' := by
  subst hM1
  exact G.by2 k (by simp) (sl_set M a _ _ hM (by simp [csz])) fun p e R s m args below meth c H locs lsM cells slots Q ha hb kk => va_put (D := ev_D X) ha.1 ha.2.1 ha.2.2.2.2.2.2.2.1 hu ty0 hty hnm ha.2.2.2.2.2.2.1 ha.2.2.2.2.2.2.2.2.2.2.1 hb.1 (ws_D X M) hb.2.1 a (ws_get hM) hc kf hk (ha.2.2.2.2.2.2.2.1 _ hlk) (fun _ h => h) hfin hdt hn hfit (by simpa using hl) hd (fun H1 locs1 hP _ hS => kk H1 locs1 (by rw [← ws_set]; simpa [te, List.map_set] using hP) hS)
theorem x_putF {i ci kf a : Nat} {fs : List Value} {w : Value} {C : String} {T : u_T} {N : Nat} {ty0 : Nat → FieldType} {ty : FieldType} {M1 : Hp} (hd : decode J.2.1 pc = .ok (.putfield i, 3)) (hc : cls_[ci]? = some (C, T, N)) (hu : ∀ w ∈ u_ws C T N, w ∈ gt) (hty : ∀ k, k < N → parseFieldDescriptor (T k).2.2.1 = some (ty0 k)) (hnm : ∀ a, a < N → ∀ b, b < N → a ≠ b → (T a).2.1 ≠ (T b).2.1) (hk : kf < N) (hlk : Cond.fieldLink J.1.cls i (T kf).1 (T kf).2.1 (T kf).2.2.1 ∈ gt)
    (hfin : (T kf).2.2.2 = true) (hin : J.1.name = "<init>") (hdc : (T kf).1 = J.1.cls) (hdt : parseFieldDescriptor (T kf).2.2.1 = some ty) (hn : narrow ty (tv X w) = tv X w) (hfit : fits ty (tv X w) = true) (hM : M[a]? = some (.inr (ci, fs))) (hl : kf < fs.length) (hM1 : M.set a (.inr (ci, fs.set kf w)) = M1) (k : G X d J M0 (pc + 3) ls st M1 v M') : G X d J M0 pc ls (w :: .ref a :: st) M v M' := by
  subst hM1
  exact G.by2 k (by simp) (sl_set M a _ _ hM (by simp [csz])) fun p e R s m args below meth c H locs lsM cells slots Q ha hb kk => va_putF (D := ev_D X) ha.1 ha.2.1 ha.2.2.2.2.2.2.2.1 hu ty0 hty hnm ha.2.2.2.2.2.2.1 ha.2.2.2.2.2.2.2.2.2.2.1 hb.1 (ws_D X M) hb.2.1 a (ws_get hM) hc kf hk (ha.2.2.2.2.2.2.2.1 _ hlk) (fun _ h => h) hfin (ha.2.2.2.2.2.1 hin) hdc hdt hn hfit (by simpa using hl) hd (fun H1 locs1 hP _ hS => kk H1 locs1 (by rw [← ws_set]; simpa [te, List.map_set] using hP) hS)
theorem x_gets {i : Nat} (hd : decode J.2.1 pc = .ok (.getstatic i, 3)) (hlk : Cond.fieldLink J.1.cls i "PageMender$Field" "POLYNOMIALS" "[I" ∈ gt) (k : G X d J M0 (pc + 3) ls (.retAddr 1 :: st) M v M') : G X d J M0 pc ls st M v M' :=
  G.by1 k fun p e R s m args below meth c H locs lsM cells slots Q ha hb kk => va_gets (ref := "PageMender$Field") ha.1 ha.2.1 ha.2.2.2.2.2.2.2.2.2.2.2.1.2.2.1 hb.2.1 ha.2.2.2.2.2.2.1 (ha.2.2.2.2.2.2.2.1 _ hlk) (fun _ h => h) hd (kk lsM hb.2.2)
theorem x_pald {i : Int32} {j : Nat} (hd : decode J.2.1 pc = .ok (.iaload, 1)) (hi : i = nI j) (hj : j < 11) (k : G X d J M0 (pc + 1) ls (.int (pols j) :: st) M v M') : G X d J M0 pc ls (.int i :: .retAddr 1 :: st) M v M' := by
  subst hi
  exact G.by1 k fun p e R s m args below meth c H locs lsM cells slots Q ha hb kk => va_ti ha.1 ha.2.1 ha.2.2.2.2.2.2.2.2.2.2.2.1.2.1 hb.2.1 (vp_in_nI hj (by decide)) (by rw [nI_clamp (by omega)]; rfl) hd (kk lsM hb.2.2)
theorem x_sald {i : Int32} {j : Nat} (hd : decode J.2.1 pc = .ok (.iaload, 1)) (hi : i = nI j) (hj : j < ev_L X) (hL : ev_L X < 2 ^ 31) (k : G X d J M0 (pc + 1) ls (.int (ev_x X j) :: st) M v M') : G X d J M0 pc ls (.int i :: .retAddr 0 :: st) M v M' := by
  subst hi
  exact G.by1 k fun p e R s m args below meth c H locs lsM cells slots Q ha hb kk => va_ti ha.1 ha.2.1 ha.2.2.2.2.2.2.2.2.2.2.2.1.1 hb.2.1 (vp_in_nI hj hL) (by rw [nI_clamp (by omega)]; rfl) hd (kk lsM hb.2.2)
theorem x_slen (hd : decode J.2.1 pc = .ok (.arraylength, 1)) (k : G X d J M0 (pc + 1) ls (.int (nI (ev_L X)) :: st) M v M') : G X d J M0 pc ls (.retAddr 0 :: st) M v M' :=
  G.by1 k fun p e R s m args below meth c H locs lsM cells slots Q ha hb kk => va_tlen ha.1 ha.2.1 ha.2.2.2.2.2.2.2.2.2.2.2.1.1 hb.2.1 rfl hd (kk lsM hb.2.2)
theorem x_alen {a t n : Nat} {x : vp_A} (hd : decode J.2.1 pc = .ok (.arraylength, 1)) (ht : t < 4) (hM : M[a]? = some (.inl (t, x))) (hn : x.1 = n) (k : G X d J M0 (pc + 1) ls (.int (nI n) :: st) M v M') : G X d J M0 pc ls (.ref a :: st) M v M' :=
  G.by1 k fun p e R s m args below meth c H locs lsM cells slots Q ha hb kk => by
    have h : ∃ ty, (tys_ X)[t]? = some (ev_k X t, ty) := by
      match t, ht with
      | 0, _ => exact ⟨_, rfl⟩
      | 1, _ => exact ⟨_, rfl⟩
      | 2, _ => exact ⟨_, rfl⟩
      | 3, _ => exact ⟨_, rfl⟩
    obtain ⟨ty, h⟩ := h
    exact va_alen (D := ev_D X) ha.1 ha.2.1 ha.2.2.2.2.2.2.2.2.2.2.1 hb.1 a t (ws_get hM) h (by rw [ta_1, hn]; rfl) hd (kk lsM hb.2.2)
theorem x_ild {a j n : Nat} {i : Int32} {f : Nat → Int32} (hd : decode J.2.1 pc = .ok (.iaload, 1)) (hM : M[a]? = some (.inl (0, n, .inl f))) (hi : i = nI j) (hj : j < n) (hn : n < 2 ^ 31) (k : G X d J M0 (pc + 1) ls (.int (f j) :: st) M v M') : G X d J M0 pc ls (.int i :: .ref a :: st) M v M' := by
  subst hi
  exact G.by1 k fun p e R s m args below meth c H locs lsM cells slots Q ha hb kk => va_iald (D := ev_D X) ha.1 ha.2.1 ha.2.2.2.2.2.2.2.2.2.2.1 hb.1 a 0 (ws_get hM) rfl (vp_in_nI hj hn) hd (by rw [nI_clamp (by omega)]; exact kk lsM hb.2.2)
theorem x_lld {a j n : Nat} {i : Int32} {f : Nat → Int64} (hd : decode J.2.1 pc = .ok (.laload, 1)) (hM : M[a]? = some (.inl (1, n, .inr (.inl f)))) (hi : i = nI j) (hj : j < n) (hn : n < 2 ^ 31) (k : G X d J M0 (pc + 1) ls (.long (f j) :: st) M v M') : G X d J M0 pc ls (.int i :: .ref a :: st) M v M' := by
  subst hi
  exact G.by1 k fun p e R s m args below meth c H locs lsM cells slots Q ha hb kk => va_lald (D := ev_D X) ha.1 ha.2.1 ha.2.2.2.2.2.2.2.2.2.2.1 hb.1 a 1 (ws_get hM) rfl (vp_in_nI hj hn) hd (by rw [nI_clamp (by omega)]; exact kk lsM hb.2.2)
theorem x_zld {a j n : Nat} {i : Int32} {f : Nat → Int32} (hd : decode J.2.1 pc = .ok (.baload, 1)) (hM : M[a]? = some (.inl (2, n, .inl f))) (hi : i = nI j) (hj : j < n) (hn : n < 2 ^ 31) (k : G X d J M0 (pc + 1) ls (.int (f j) :: st) M v M') : G X d J M0 pc ls (.int i :: .ref a :: st) M v M' := by
  subst hi
  exact G.by1 k fun p e R s m args below meth c H locs lsM cells slots Q ha hb kk => va_zald (D := ev_D X) ha.1 ha.2.1 ha.2.2.2.2.2.2.2.2.2.2.1 hb.1 a 2 (ws_get hM) rfl (vp_in_nI hj hn) hd (by rw [nI_clamp (by omega)]; exact kk lsM hb.2.2)
theorem x_ist {a j n : Nat} {i : Int32} {x : Int32} {f : Nat → Int32} {M1 : Hp} (hd : decode J.2.1 pc = .ok (.iastore, 1)) (hM : M[a]? = some (.inl (0, n, .inl f))) (hi : i = nI j) (hj : j < n) (hn : n < 2 ^ 31) (hM1 : M.set a (.inl (0, n, .inl (upd f j x))) = M1) (k : G X d J M0 (pc + 1) ls st M1 v M') : G X d J M0 pc ls (.int x :: .int i :: .ref a :: st) M v M' := by
  subst hi
  subst hM1
  exact G.by2 k (by simp) (sl_set M a _ _ hM (by simp [csz])) fun p e R s m args below meth c H locs lsM cells slots Q ha hb kk => va_iast (D := ev_D X) ha.1 ha.2.1 ha.2.2.2.2.2.2.2.2.2.2.1 hb.1 (ws_D X M) hb.2.1 a 0 (ws_get hM) rfl (vp_in_nI hj hn) hd (fun H1 locs1 hP _ hS => kk H1 locs1 (by rw [nI_clamp (by omega)] at hP; rw [← ws_set]; exact hP) hS)
theorem x_lst {a j n : Nat} {i : Int32} {x : Int64} {f : Nat → Int64} {M1 : Hp} (hd : decode J.2.1 pc = .ok (.lastore, 1)) (hM : M[a]? = some (.inl (1, n, .inr (.inl f)))) (hi : i = nI j) (hj : j < n) (hn : n < 2 ^ 31) (hM1 : M.set a (.inl (1, n, .inr (.inl (vp_updL f j x)))) = M1) (k : G X d J M0 (pc + 1) ls st M1 v M') : G X d J M0 pc ls (.long x :: .int i :: .ref a :: st) M v M' := by
  subst hi
  subst hM1
  exact G.by2 k (by simp) (sl_set M a _ _ hM (by simp [csz])) fun p e R s m args below meth c H locs lsM cells slots Q ha hb kk => va_last (D := ev_D X) ha.1 ha.2.1 ha.2.2.2.2.2.2.2.2.2.2.1 hb.1 (ws_D X M) hb.2.1 a 1 (ws_get hM) rfl (vp_in_nI hj hn) hd (fun H1 locs1 hP _ hS => kk H1 locs1 (by rw [nI_clamp (by omega)] at hP; rw [← ws_set]; exact hP) hS)
theorem x_zst {a j n : Nat} {i : Int32} {x : Int32} {f : Nat → Int32} {M1 : Hp} (hd : decode J.2.1 pc = .ok (.bastore, 1)) (hM : M[a]? = some (.inl (2, n, .inl f))) (hi : i = nI j) (hj : j < n) (hn : n < 2 ^ 31) (hM1 : M.set a (.inl (2, n, .inl (upd f j (vp_nar .boolean x)))) = M1) (k : G X d J M0 (pc + 1) ls st M1 v M') : G X d J M0 pc ls (.int x :: .int i :: .ref a :: st) M v M' := by
  subst hi
  subst hM1
  exact G.by2 k (by simp) (sl_set M a _ _ hM (by simp [csz])) fun p e R s m args below meth c H locs lsM cells slots Q ha hb kk => va_zast (D := ev_D X) ha.1 ha.2.1 ha.2.2.2.2.2.2.2.2.2.2.1 hb.1 (ws_D X M) hb.2.1 a 2 (ws_get hM) rfl (vp_in_nI hj hn) hd (fun H1 locs1 hP _ hS => kk H1 locs1 (by rw [nI_clamp (by omega)] at hP; rw [← ws_set]; exact hP) hS)
theorem x_ald {a j n r : Nat} {i : Int32} {f : Nat → Option Nat} (hd : decode J.2.1 pc = .ok (.aaload, 1)) (hM : M[a]? = some (.inl (3, n, .inr (.inr (.inr (.inr f)))))) (hi : i = nI j) (hj : j < n) (hn : n < 2 ^ 31) (hr : f j = some r) (k : G X d J M0 (pc + 1) ls (.ref r :: st) M v M') : G X d J M0 pc ls (.int i :: .ref a :: st) M v M' := by
  subst hi
  exact G.by1 k fun p e R s m args below meth c H locs lsM cells slots Q ha hb kk => va_aldq (D := ev_D X) ha.1 ha.2.1 ha.2.2.2.2.2.2.2.2.2.2.1 hb.1 a 3 (ws_get hM) rfl (vp_in_nI hj hn) hd (by
    have h2 := kk lsM hb.2.2
    rw [nI_clamp (by omega), hr]
    exact h2)
theorem x_ast {a j n r : Nat} {i : Int32} {f : Nat → Option Nat} {fs : List Value} {M1 : Hp} (hd : decode J.2.1 pc = .ok (.aastore, 1)) (hM : M[a]? = some (.inl (3, n, .inr (.inr (.inr (.inr f)))))) (hr : M[r]? = some (.inr (3, fs))) (hi : i = nI j) (hj : j < n) (hn : n < 2 ^ 31) (hM1 : M.set a (.inl (3, n, .inr (.inr (.inr (.inr (va_up f j (some r))))))) = M1) (k : G X d J M0 (pc + 1) ls st M1 v M') : G X d J M0 pc ls (.ref r :: .int i :: .ref a :: st) M v M' := by
  subst hi
  subst hM1
  exact G.by2 k (by simp) (sl_set M a _ _ hM (by simp [csz])) fun p e R s m args below meth c H locs lsM cells slots Q ha hb kk => va_astq (D := ev_D X) ha.1 ha.2.1 ha.2.2.2.2.2.2.2.2.2.2.1 hb.1 (ws_D X M) hb.2.1 a 3 r 3 (r := (RX4, TX4, 4)) (ws_get hM) rfl (ws_get hr) rfl (vp_in_nI hj hn) hd (fun H1 locs1 hP _ hS => kk H1 locs1 (by
      rw [nI_clamp (by omega)] at hP
      rw [← ws_set]
      have e1 : (fun q => (va_up f j (some r) q).map (fun i => ev_o X + i)) = va_up (fun q => (f q).map (fun i => ev_o X + i)) j (some (ev_o X + r)) := by
        funext q
        by_cases h : q = j
        · subst h; simp [va_up]
        · simp [va_up, h]
      simp only [te, ta, e1]
      exact hP) hS)
theorem G.by3 {cel : Cel} {pc' : Nat} {st' : List Value} (k : G X d J M0 pc' ls st' (M ++ [cel]) v M')
    (h : ∀ (p : Program) (e : Env) (R : Room) (s : State) (m : MethodId) (args : Array Value) (below : List Frame) (meth : Method) (c : Code) (H : Heap) (locs : List Loc) (lsM : Array Slot) (cells slots : Nat) (Q : State → Prop), Ca X d J M0 p R s m args meth c → Cb X J s M ls H locs lsM → H.size = ev_o X + M.length → cells + 1 ≤ R.cells → slots + csz cel ≤ R.slots →
      (∀ (H1 : Heap), va_P (ev_D X) cls_ (ws_ X M ++ [(H.size, te X cel)]) H1 → va_S (evA X) s.heap H1 locs → W p (ev_l X) e R s m args below meth c H1 locs (cells + 1) (slots + csz cel) Q (F0 m pc' lsM (st'.map (tv X)))) → W p (ev_l X) e R s m args below meth c H locs cells slots Q (F0 m pc lsM (st.map (tv X)))) : G X d J M0 pc ls st M v M' := by
  have hl1 : M.length + 1 ≤ M'.length := by have := k.1.1; simpa using this
  have hs1 : sl M + csz cel ≤ sl M' := by have := k.1.2; rw [sl_push] at this; exact this
  refine ⟨⟨by omega, by omega⟩, fun hL p e R s m args below meth c H locs lsM ha hr hb => W.sz fun hz => ?_⟩
  have h0 : ev_o X ≤ s.heap.size := by rw [ha.2.2.2.2.2.2.2.2.2.2.2.2]; omega
  have hge := hp_ge hb.1 hb.2.1 h0
  have hz2 : H.size = ev_o X + M.length := by
    have h5 := ha.2.2.2.2.2.2.2.2.2.2.2.2
    have h6 := hL.1
    omega
  have h7 := hL.1
  have h8 := hL.2
  have hr1 := hr.1
  have hr2 := hr.2
  refine h p e R s m args below meth c H locs lsM _ _ _ ha hb hz2 (by omega) (by omega) (fun H1 hP hS => ?_)
  have h9 := k.2 ⟨by simp; omega, by rw [sl_push]; omega⟩ p e R s m args below meth c H1 locs lsM ha hr ⟨by rw [← ws_push, ← hz2]; exact hP, hS, hb.2.2⟩
  rw [sl_push, List.length_append, List.length_singleton, show M.length + 1 - M0.length = M.length - M0.length + 1 by omega, show sl M + csz cel - sl M0 = sl M - sl M0 + csz cel by omega] at h9
  exact h9
theorem x_new {i ci : Nat} {C : String} {T : u_T} {N : Nat} {ty : Nat → FieldType} {fs : List Value} (hd : decode J.2.1 pc = .ok (.new i, 3)) (hc : cls_[ci]? = some (C, T, N)) (hu : ∀ w ∈ u_ws C T N, w ∈ gt) (hty : ∀ k, k < N → parseFieldDescriptor (T k).2.2.1 = some (ty k)) (hcl : Cond.classLink J.1.cls i C ∈ gt) (hinst : Cond.instantiable C N ∈ gt) (hini : Cond.initialized C ∈ gt)
    (hfs : ∀ j, j < N → defaultValue (ty j) = vp_V fs j) (hlen : fs.length = N) (htv : fs.map (tv X) = fs) (k : G X d J M0 (pc + 3) ls (.ref M.length :: st) (M ++ [.inr (ci, fs)]) v M') : G X d J M0 pc ls st M v M' :=
  G.by3 k fun p e R s m args below meth c H locs lsM cells slots Q ha hb hz h1 h2 kk => by
    have hK := ha.2.2.2.2.2.2.2.2.2.2.1
    have hKn := hK.1 ci _ hc
    have hts := ha.2.2.2.2.2.2.2.1
    have h2' : slots + N ≤ R.slots := by simpa [csz, hlen] using h2
    refine W.newcK ha.1 ha.2.1 ha.2.2.2.2.2.2.1 (hts _ hcl) (hts _ hinst) (hts _ hini) rfl hd h1 h2' hKn.2.1 rfl fun H1 kC hkC e1 z1 o1 => ?_
    have hk : ∀ (k : Nat) (x : Nat × va_E), (ws_ X M)[k]? = some x → H1[x.1]? = H[x.1]? := fun k x hx => o1 x.1 ((hb.1 k x hx).lt)
    have h3 := kk H1 ((hb.1.kept hk).app (fun k x hx => by
      have hz0 : k < 1 := (List.getElem?_eq_some_iff.mp hx).1
      rw [show k = 0 by omega] at hx
      cases hx
      refine ⟨_, hc, ?_⟩
      simp only [te, htv]
      exact (u_born ty hts hu hKn hkC e1 hty).to hfs)) ⟨Nat.le_trans hb.2.1.1 (by omega), fun x g1 g2 => (o1 x (Nat.lt_of_lt_of_le g1 hb.2.1.1)).trans (hb.2.1.2.1 x g1 g2), hb.2.1.2.2⟩
    simp only [csz, hlen] at h3
    rw [hz]
    exact h3
theorem ra_id {U : State} {c c' : ClassId} {ty : FieldType} (h : va_RA U c ty) (h2 : U.vm.findClass ("[" ++ ty.toString) = some c') : c' = c := by
  cases ty with
  | object C =>
    obtain ⟨kA, comp, g1, g2, g3, g4⟩ := h
    rw [g4] at h2
    exact (Option.some.inj h2).symm
  | _ => exact (Option.some.inj (Eq.trans (Eq.symm h) h2)).symm
theorem x_newa {t N : Nat} {n : Int32} {at_ : ArrayType} {ty : FieldType} {a0 : vp_A} (hd : decode J.2.1 pc = .ok (.newarray at_, 2)) (hty : newarray.typeOf at_ = ty) (ht : (tys_ X)[t]? = some (ev_k X t, ty)) (hw : Cond.arrayClass ty ∈ gt) (ha0 : ∀ cA : ClassId, vp_cell cA a0 = arrV cA N (fun _ => defaultValue ty)) (hta : ta X a0 = a0) (hN1 : a0.1 = N) (hn : n = nI N) (hN : N < 2 ^ 20) (hby : componentBytes ty ≤ 8)
    (k : G X d J M0 (pc + 2) ls (.ref M.length :: st) (M ++ [.inl (t, a0)]) v M') : G X d J M0 pc ls (.int n :: st) M v M' :=
  G.by3 k fun p e R s m args below meth c H locs lsM cells slots Q ha hb hz h1 h2 kk => by
    subst hty
    subst hn
    have hK := ha.2.2.2.2.2.2.2.2.2.2.1
    have hts := ha.2.2.2.2.2.2.2.1
    have h2' : slots + N ≤ R.slots := by simpa [csz, hN1] using h2
    have hb8 : N * componentBytes (newarray.typeOf at_) ≤ 536870912 := by
      have := Nat.mul_le_mul (Nat.le_of_lt hN) hby
      omega
    refine va_newaK (N := N) ha.1 ha.2.1 (hts _ hw) rfl hd rfl (nI_pos (by omega)) (nI_clamp (by omega)) hb8 h1 h2' rfl fun H1 cA e1 z1 o1 hAr hNm => ?_
    have hcA : cA = ev_k X t := ra_id (hK.2 t _ ht).2 hNm
    have hk : ∀ (k : Nat) (x : Nat × va_E), (ws_ X M)[k]? = some x → H1[x.1]? = H[x.1]? := fun k x hx => o1 x.1 ((hb.1 k x hx).lt)
    have h3 := kk H1 ((hb.1.kept hk).app (fun k x hx => by
      have hz0 : k < 1 := (List.getElem?_eq_some_iff.mp hx).1
      rw [show k = 0 by omega] at hx
      cases hx
      show H1[H.size]? = some (vp_cell _ _)
      rw [hta, ha0, ← hcA]
      exact e1)) ⟨Nat.le_trans hb.2.1.1 (by omega), fun x g1 g2 => (o1 x (Nat.lt_of_lt_of_le g1 hb.2.1.1)).trans (hb.2.1.2.1 x g1 g2), hb.2.1.2.2⟩
    simp only [csz, hN1] at h3
    rw [hz]
    exact h3
theorem x_newq {i N : Nat} {n : Int32} (hd : decode J.2.1 pc = .ok (.anewarray i, 3)) (hcl : Cond.classLink J.1.cls i "PageMender$Page" ∈ gt) (hn : n = nI N) (hN : N < 2 ^ 20)
    (k : G X d J M0 (pc + 3) ls (.ref M.length :: st) (M ++ [.inl (3, N, .inr (.inr (.inr (.inr (fun _ => none)))))]) v M') : G X d J M0 pc ls (.int n :: st) M v M' :=
  G.by3 k fun p e R s m args below meth c H locs lsM cells slots Q ha hb hz h1 h2 kk => by
    subst hn
    have hK := ha.2.2.2.2.2.2.2.2.2.2.1
    have hts := ha.2.2.2.2.2.2.2.1
    have hcl' : (nI N).toNatClampNeg = N := nI_clamp (by omega)
    refine W.anew ha.1 ha.2.1 ha.2.2.2.2.2.2.1 (hts _ hcl) (va_AO.use ha.2.2.2.2.2.2.2.2.2.2.2.1.2.2.2) rfl hd rfl (nI_pos (by omega)) (by rw [hcl']; omega) h1 (by rw [hcl']; exact h2) fun cA kA comp f1 f2 f3 f4 => ?_
    have hcA : cA = ev_k X 3 := ra_id (hK.2 3 (ev_k X 3, .object "PageMender$Page") rfl).2 f1
    rw [hcl']
    generalize hH1 : H.push ({ cls := cA, slots := Array.replicate N .null, vm := .none } : Cell) = H1
    have z1 : H1.size = H.size + 1 := by rw [← hH1, Array.size_push]
    have e1 : H1[H.size]? = some (arrV cA N (fun _ => .null)) := by rw [← hH1, Array.getElem?_push_size, ← arrV_new]
    have o1 : ∀ q : Nat, q < H.size → H1[q]? = H[q]? := fun q hq => by rw [← hH1, Array.getElem?_push, if_neg (Nat.ne_of_lt hq)]
    have hk : ∀ (k : Nat) (x : Nat × va_E), (ws_ X M)[k]? = some x → H1[x.1]? = H[x.1]? := fun k x hx => o1 x.1 ((hb.1 k x hx).lt)
    have h3 := kk H1 ((hb.1.kept hk).app (fun k x hx => by
      have hz0 : k < 1 := (List.getElem?_eq_some_iff.mp hx).1
      rw [show k = 0 by omega] at hx
      cases hx
      show H1[H.size]? = some (vp_cell _ _)
      rw [e1, hcA]
      rfl)) ⟨Nat.le_trans hb.2.1.1 (by omega), fun x g1 g2 => (o1 x (Nat.lt_of_lt_of_le g1 hb.2.1.1)).trans (hb.2.1.2.1 x g1 g2), hb.2.1.2.2⟩
    rw [show (F0 m (pc + 3) lsM (List.map (tv X) (Value.ref M.length :: st))) = F0 m (pc + 3) lsM (.ref H.size :: st.map (tv X)) by rw [hz]; rfl] at h3
    exact h3
theorem x_ret (hd : decode J.2.1 pc = .ok (.return_, 1)) (hr : J.2.2.2 = none) : G X d J M0 pc ls [] M none M :=
  ⟨Le.rf M, fun hL p e R s m args below meth c H locs lsM ha hrr hb => by
    have hlocks : meth.locks = false := ha.2.2.2.2.1
    exact W.vret ha.1 ha.2.1 (ha.2.2.2.1.trans hr) (fun t ht hW => ⟨⟨rfl, by rw [ht]; exact hb.1⟩, hb.2.1.F ht⟩) hb.2.1.2.2 hd⟩
theorem x_ireturn {x : Int32} (hd : decode J.2.1 pc = .ok (.ireturn, 1)) (hr : J.2.2.2 = some .int) : G X d J M0 pc ls [.int x] M (some (.int x)) M :=
  ⟨Le.rf M, fun hL p e R s m args below meth c H locs lsM ha hrr hb => by
    have hlocks : meth.locks = false := ha.2.2.2.2.1
    exact W.iret ha.1 ha.2.1 (ha.2.2.2.1.trans hr) (fun t ht hW => ⟨⟨rfl, by rw [ht]; exact hb.1⟩, hb.2.1.F ht⟩) hb.2.1.2.2 hd⟩
theorem x_zreturn {x : Int32} (hd : decode J.2.1 pc = .ok (.ireturn, 1)) (hr : J.2.2.2 = some .boolean) (hn : narrow .boolean (.int x) = .int x) : G X d J M0 pc ls [.int x] M (some (.int x)) M :=
  ⟨Le.rf M, fun hL p e R s m args below meth c H locs lsM ha hrr hb => by
    have hlocks : meth.locks = false := ha.2.2.2.2.1
    exact W.zret ha.1 ha.2.1 (ha.2.2.2.1.trans hr) hn (fun t ht hW => ⟨⟨rfl, by rw [ht]; exact hb.1⟩, hb.2.1.F ht⟩) hb.2.1.2.2 hd⟩
theorem cat_sum (X : Ev) (st : List Value) : ((st.map (tv X)).map fun v => v.category).sum = (st.map fun v => v.category).sum := by
  rw [List.map_map]
  congr 1
  exact List.map_congr_left (fun v _ => tv_cat X v)
theorem x_objInit {i a : Nat} (hd : decode J.2.1 pc = .ok (.invokespecial i, 3)) (hlk : Cond.methodLink J.1.cls i objectInit ∈ gt) (hin : Cond.instanceMethod objectInit ∈ gt) (hco : Cond.code objectInit ⟨#[0xb1]⟩ 1 none ∈ gt) (hdd : 1 ≤ d) (hsum : (st.map fun v => v.category).sum ≤ 8) (k : G X d J M0 (pc + 3) ls st M v M') : G X d J M0 pc ls (.ref a :: st) M v M' :=
  G.by1 k fun p e R s m args below meth c H locs lsM cells slots Q ha hb kk => by
    have hts := ha.2.2.2.2.2.2.2.1
    have h1 := ha.2.2.2.2.2.2.2.2.1
    have h2 := ha.2.2.2.2.2.2.2.2.2.1
    refine W.objInit ha.1 ha.2.1 ha.2.2.2.2.2.2.1 (hts _ hlk) (hts _ hin) (hts _ hco) rfl (by rw [ha.2.2.1]; exact hb.2.2.1) rfl hd (by omega) ?_ (kk lsM hb.2.2)
    have h3 := lv_room (m := m) (pc := pc) (ls := lsM) (rest := st.map (tv X)) (st := st.map (tv X)) (by rw [cat_sum]; exact hsum)
    have h4 : (F0 m pc lsM (List.map (tv X) (Value.ref a :: st))).monitorRoom = (F0 m pc lsM (st.map (tv X))).monitorRoom := rfl
    rw [h4]
    omega
/-- what the tables must say of a method that is called: n parameters -/
def Mk (J : Jt) (n : Nat) : Prop := Cond.code J.1 J.2.1 J.2.2.1 J.2.2.2 ∈ gt ∧ Cond.initialized J.1.cls ∈ gt ∧ J.1.cls ≠ "java/lang/invoke/MethodHandle" ∧ J.1.cls ≠ "java/lang/invoke/VarHandle" ∧ (parseMethodDescriptor J.1.desc).map (fun d => d.parameters.length) = some n ∧ J.2.2.1 ≤ 9
theorem jw_in {J : Jt} {n : Nat} (h : Mk J n) : ∀ w ∈ jw J, w ∈ gt := fun w hw => by
  rcases List.mem_cons.mp hw with h1 | h1
  · rw [h1]; exact h.1
  · exact h1
theorem callB_k {J' : Jt} {n d' : Nat} {R : Room} {s : State} {args : Array Value} {own : String} {i mc ms : Nat} (hm : Mk J' n) (hts : ∀ w ∈ gt, w.before args s = true) (hlk : Cond.methodLink own i J'.1 ∈ gt) (hR : d' + 1 ≤ R.frames ∧ 28 * (d' + 1) ≤ R.locals) :
    CallB R s args own i J'.1 J'.2.1 J'.2.2.1 J'.2.2.2 (jw J') { frames := d', cells := mc, slots := ms, locals := 28 * d' } mc ms n :=
  callB_of n hts (gt_in (jw_in hm)) rfl rfl rfl (hts _ hm.2.1) (hts _ hlk) ⟨hm.2.2.1, hm.2.2.2.1, hm.2.2.2.2.1⟩ ⟨hR.1, by
    have := hm.2.2.2.2.2
    have := hR.2
    show 8 + (J'.2.2.1 + 11) + 28 * d' ≤ R.locals
    omega⟩
theorem G.by4 {J' : Jt} {d' : Nat} {as : List Value} {r : Option Value} {M1 : Hp} {st0 : List Value} (hC : Cl X d' J' as M r M1) (k : G X d J M0 (pc + 3) ls (r.toList ++ st) M1 v M')
    (h : ∀ (p : Program) (e : Env) (R : Room) (s : State) (m : MethodId) (args : Array Value) (below : List Frame) (meth : Method) (c : Code) (H : Heap) (locs : List Loc) (lsM : Array Slot) (cells slots : Nat), Ca X d J M0 p R s m args meth c → Cb X J s M ls H locs lsM → PreS s H (va_Pc (as.map (tv X)) (Pk X M)) (as.map (tv X)) → cells + (M1.length - M.length) ≤ R.cells ∧ slots + (sl M1 - sl M) ≤ R.slots →
      va_Run p (ev_l X) e R s m args below meth c H locs cells slots (M1.length - M.length) (sl M1 - sl M) (F0 m pc lsM (st0.map (tv X))) (st.map (tv X)) (Qk X r M1 (as.map (tv X)).toArray) (evA X)) : G X d J M0 pc ls st0 M v M' := by
  refine ⟨hC.1.tr k.1, fun hL p e R s m args below meth c H locs lsM ha hr hb => W.sz fun hz => ?_⟩
  have h0 : ev_o X ≤ s.heap.size := by rw [ha.2.2.2.2.2.2.2.2.2.2.2.2]; omega
  have hge := hp_ge hb.1 hb.2.1 h0
  have h5 := ha.2.2.2.2.2.2.2.2.2.2.2.2
  have h6 := hL.1
  have h7 := hL.2
  have h8 := hC.1.1
  have h9 := hC.1.2
  have g1 := k.1.1
  have g2 := k.1.2
  have g3 := hr.1
  have g4 := hr.2
  have hz2 : H.size = ev_o X + M.length := by omega
  have hpre : PreS s H (va_Pc (as.map (tv X)) (Pk X M)) (as.map (tv X)) := ⟨Pk.blind X M _, fun U hU hW => ⟨rfl, by rw [hU]; exact hb.1, va_K.moved hW.alike ha.2.2.2.2.2.2.2.2.2.2.1, by rw [hU]; exact hz2, Ro.at ha.2.2.2.2.2.2.2.2.2.2.2.1 hb.2.1 hU hW.alike⟩⟩
  refine va_callk (h p e R s m args below meth c H locs lsM _ _ ha hb hpre ⟨by omega, by omega⟩) hb.2.1 (fun H1 locs1 hP hS => ?_)
  have h10 := k.2 ⟨by omega, by omega⟩ p e R s m args below meth c H1 locs1 lsM ha hr ⟨hP, hS, hb.2.2⟩
  rw [show M.length - M0.length + (M1.length - M.length) = M1.length - M0.length by omega, show sl M - sl M0 + (sl M1 - sl M) = sl M1 - sl M0 by omega]
  have e1 : (r.map (tv X)).toList ++ st.map (tv X) = (r.toList ++ st).map (tv X) := by cases r <;> rfl
  rw [e1]
  exact h10
theorem x_callS {i n : Nat} {J' : Jt} {d' : Nat} {as : List Value} {r : Option Value} {M1 : Hp} {st0 : List Value} (hd : decode J.2.1 pc = .ok (.invokestatic i, 3)) (hm : Mk J' n) (hsta : Cond.static J'.1 ∈ gt) (hlk : Cond.methodLink J.1.cls i J'.1 ∈ gt) (hdd : d' + 1 ≤ d) (hn : as.length = n) (hst : st0 = as.reverse ++ st) (hsum : (st.map fun v => v.category).sum ≤ 8) (hC : Cl X d' J' as M r M1) (k : G X d J M0 (pc + 3) ls (r.toList ++ st) M1 v M') : G X d J M0 pc ls st0 M v M' :=
  G.by4 hC k fun p e R s m args below meth c H locs lsM cells slots ha hb hpre hf => by
    have hts := ha.2.2.2.2.2.2.2.1
    have h1 := ha.2.2.2.2.2.2.2.2.1
    have h2 := ha.2.2.2.2.2.2.2.2.2.1
    exact va_runS (As := as.map (tv X)) (rest := st.map (tv X)) ⟨ha.1, ha.2.1, ha.2.2.1, ha.2.2.2.2.2.2.1, hts⟩ hC.2 ⟨callB_k hm hts hlk ⟨by omega, by omega⟩, hts _ hsta⟩ hpre rfl (by simpa using hn) hb.2.2.1 (by show st0.map (tv X) = _; rw [hst]; simp) (lv_room (by rw [cat_sum]; exact hsum)) hd hf
theorem x_callI {i n b : Nat} {J' : Jt} {d' : Nat} {as : List Value} {M1 : Hp} {st0 : List Value} (hd : decode J.2.1 pc = .ok (.invokespecial i, 3)) (hm : Mk J' n) (hrt : J'.2.2.2 = none) (hnm : J'.1.name = "<init>") (hin : Cond.instanceMethod J'.1 ∈ gt) (hlk : Cond.methodLink J.1.cls i J'.1 ∈ gt) (hdd : d' + 1 ≤ d) (hn : as.length = n) (hst : st0 = as.reverse ++ .ref b :: st) (hsum : (st.map fun v => v.category).sum ≤ 8) (hC : Cl X d' J' (.ref b :: as) M none M1) (k : G X d J M0 (pc + 3) ls st M1 v M') : G X d J M0 pc ls st0 M v M' :=
  G.by4 (r := none) hC k fun p e R s m args below meth c H locs lsM cells slots ha hb hpre hf => by
    have hts := ha.2.2.2.2.2.2.2.1
    have h1 := ha.2.2.2.2.2.2.2.2.1
    have h2 := ha.2.2.2.2.2.2.2.2.2.1
    have hcb := callB_k (d' := d') (mc := M1.length - M.length) (ms := sl M1 - sl M) (R := R) hm hts hlk ⟨by omega, by omega⟩
    rw [hrt] at hcb
    exact va_runI (As := as.map (tv X)) (b := ev_o X + b) (rest := st.map (tv X)) ⟨ha.1, ha.2.1, ha.2.2.1, ha.2.2.2.2.2.2.1, hts⟩ hC.2 ⟨hcb, hnm, hts _ hin⟩ hpre rfl (by simpa using hn) hb.2.2.1 (by show st0.map (tv X) = _; rw [hst]; simp [tv]) (lv_room (by rw [cat_sum]; exact hsum)) hd hf
theorem x_callV {i n b ci : Nat} {J' : Jt} {d' : Nat} {as : List Value} {r : Option Value} {M1 : Hp} {st0 : List Value} {fs : List Value} {T : u_T} {N : Nat} (hd : decode J.2.1 pc = .ok (.invokevirtual i, 3)) (hm : Mk J' n) (hin : Cond.instanceMethod J'.1 ∈ gt) (hsel : Cond.selects J'.1.cls J'.1 J'.1 ∈ gt) (hlk : Cond.methodLink J.1.cls i J'.1 ∈ gt) (hc : cls_[ci]? = some (J'.1.cls, T, N)) (hM : M[b]? = some (.inr (ci, fs))) (hdd : d' + 1 ≤ d) (hn : as.length = n) (hst : st0 = as.reverse ++ .ref b :: st) (hsum : (st.map fun v => v.category).sum ≤ 8) (hC : Cl X d' J' (.ref b :: as) M r M1) (k : G X d J M0 (pc + 3) ls (r.toList ++ st) M1 v M') : G X d J M0 pc ls st0 M v M' :=
  G.by4 hC k fun p e R s m args below meth c H locs lsM cells slots ha hb hpre hf => by
    have hts := ha.2.2.2.2.2.2.2.1
    have h1 := ha.2.2.2.2.2.2.2.2.1
    have h2 := ha.2.2.2.2.2.2.2.2.2.1
    exact va_runV (As := as.map (tv X)) (b := ev_o X + b) (rest := st.map (tv X)) ⟨ha.1, ha.2.1, ha.2.2.1, ha.2.2.2.2.2.2.1, hts⟩ hC.2 ⟨callB_k hm hts hlk ⟨by omega, by omega⟩, hts _ hin, hts _ hsel⟩ ⟨hpre.1, va_recv ha.2.2.2.2.2.2.2.2.2.2.1 hb.1 hc (ws_get hM), hpre.2⟩ rfl (by simpa using hn) hb.2.2.1 (by show st0.map (tv X) = _; rw [hst]; simp [tv]) (lv_room (by rw [cat_sum]; exact hsum)) hd hf
theorem Cl.of {as : List Value} (hy : plainName J.1.cls = true) (hls : lq X 0 ls = lv_args 0 (as.map (tv X))) (hle : (lg_sl (as.map (tv X))).length ≤ J.2.2.1) (k : G X d J M 0 ls [] M v M') : Cl X d J as M v M' := by
  refine ⟨k.1, Met.ofW (cc := J.2.1) (maxL := J.2.2.1) (ret := J.2.2.2) hy rfl ?_⟩
  intro p e s m args below meth c s₁ B hml hv
  obtain ⟨rfl, hP, hK, hz, hR⟩ := hv
  have hts := atoms_spec (ws := jw J) B.pre
  have hl := lv_entry (as.map (tv X)) (n := J.2.2.1) hle
  rw [lg_entry_eq]
  rw [← hls] at hl
  have h := k.2 (Le.rf M) p e (headSpec (jw J) { frames := d, cells := M'.length - M.length, slots := sl M' - sl M, locals := 28 * d }).room s m (as.map (tv X)).toArray below meth c s.heap [] _
    ⟨B.exec, B.bytes, hml, B.returns, B.notSynchronized, fun hn => ((name_of_methodNamed B.named B.method).1).trans hn, findClass_of_methodNamed B.named, fun w hw => hts w (List.mem_cons_of_mem _ hw), Nat.le_refl _, Nat.le_refl _, hK, hR, hz⟩ ⟨Nat.le_refl _, Nat.le_refl _⟩ ⟨hP, va_S.rf, hl⟩
  rw [Nat.sub_self, Nat.sub_self] at h
  exact h
theorem x_copyl {i a0 a n0 n1 np : Nat} {f g : Nat → Int64} {M1 : Hp} (hd : decode J.2.1 pc = .ok (.invokestatic i, 3)) (hlk : Cond.methodLink J.1.cls i arraycopyName ∈ gt) (hnat : Cond.native arraycopyName ∈ gt) (hstat : Cond.static arraycopyName ∈ gt) (hini : Cond.initialized "java/lang/System" ∈ gt) (hM0 : M[a0]? = some (.inl (1, n0, .inr (.inl f)))) (hMa : M[a]? = some (.inl (1, n1, .inr (.inl g)))) (h4 : np ≤ n0) (h5 : np ≤ n1) (hnp : np < 2 ^ 31) (hdd : 1 ≤ d) (hsum : (st.map fun v => v.category).sum ≤ 0)
    (hM1 : M.set a (.inl (1, n1, .inr (.inl (va_cpy f g 0 0 np)))) = M1) (k : G X d J M0 (pc + 3) ls st M1 v M') : G X d J M0 pc ls (.int (nI np) :: .int 0 :: .ref a :: .int 0 :: .ref a0 :: st) M v M' := by
  subst hM1
  exact G.by2 k (by simp) (sl_set M a _ _ hMa (by simp [csz])) fun p e R s m args below meth c H locs lsM cells slots Q ha hb kk => by
    have hts := ha.2.2.2.2.2.2.2.1
    have h1 := ha.2.2.2.2.2.2.2.2.1
    have h2 := ha.2.2.2.2.2.2.2.2.2.1
    have hc := nI_clamp (n := np) hnp
    have c0 : (0 : Int32).toNatClampNeg = 0 := rfl
    refine va_copyl (D := ev_D X) ha.1 ha.2.1 (by rw [ha.2.2.1]; exact hb.2.2.1.symm) ha.2.2.2.2.2.2.1 (hts _ hlk) (hts _ hnat) (hts _ hstat) (hts _ hini) ha.2.2.2.2.2.2.2.2.2.2.1 hb.1 (ws_D X M) hb.2.1 a0 a 1 1 (ws_get hM0) (ws_get hMa) rfl rfl rfl (by decide) (by decide) (nI_pos hnp) (by rw [c0, hc]; omega) (by rw [c0, hc]; omega) (fun _ _ => rfl) (by omega) ?_ hd (fun H1 locs1 hP _ hS => kk H1 locs1 (by rw [c0, hc] at hP; rw [← ws_set]; exact hP) hS)
    rw [cat_sum]
    have e5 : nativeFrameWords "java/lang/System" "arraycopy" 5 + 11 ≤ 28 := by decide +kernel
    omega
theorem x_copyi {i a0 a n0 n1 np : Nat} {f g : Nat → Int32} {M1 : Hp} (hd : decode J.2.1 pc = .ok (.invokestatic i, 3)) (hlk : Cond.methodLink J.1.cls i arraycopyName ∈ gt) (hnat : Cond.native arraycopyName ∈ gt) (hstat : Cond.static arraycopyName ∈ gt) (hini : Cond.initialized "java/lang/System" ∈ gt) (hM0 : M[a0]? = some (.inl (0, n0, .inl f))) (hMa : M[a]? = some (.inl (0, n1, .inl g))) (h4 : np ≤ n0) (h5 : np ≤ n1) (hnp : np < 2 ^ 31) (hdd : 1 ≤ d) (hsum : (st.map fun v => v.category).sum ≤ 0)
    (hM1 : M.set a (.inl (0, n1, .inl (va_cpy f g 0 0 np))) = M1) (k : G X d J M0 (pc + 3) ls st M1 v M') : G X d J M0 pc ls (.int (nI np) :: .int 0 :: .ref a :: .int 0 :: .ref a0 :: st) M v M' := by
  subst hM1
  exact G.by2 k (by simp) (sl_set M a _ _ hMa (by simp [csz])) fun p e R s m args below meth c H locs lsM cells slots Q ha hb kk => by
    have hts := ha.2.2.2.2.2.2.2.1
    have h1 := ha.2.2.2.2.2.2.2.2.1
    have h2 := ha.2.2.2.2.2.2.2.2.2.1
    have hc := nI_clamp (n := np) hnp
    have c0 : (0 : Int32).toNatClampNeg = 0 := rfl
    refine va_copyi (D := ev_D X) ha.1 ha.2.1 (by rw [ha.2.2.1]; exact hb.2.2.1.symm) ha.2.2.2.2.2.2.1 (hts _ hlk) (hts _ hnat) (hts _ hstat) (hts _ hini) ha.2.2.2.2.2.2.2.2.2.2.1 hb.1 (ws_D X M) hb.2.1 a0 a 0 0 (ws_get hM0) (ws_get hMa) rfl rfl rfl (by decide) (by decide) (nI_pos hnp) (by rw [c0, hc]; omega) (by rw [c0, hc]; omega) (fun _ _ => rfl) (by omega) ?_ hd (fun H1 locs1 hP _ hS => kk H1 locs1 (by rw [c0, hc] at hP; rw [← ws_set]; exact hP) hS)
    rw [cat_sum]
    have e5 : nativeFrameWords "java/lang/System" "arraycopy" 5 + 11 ≤ 28 := by decide +kernel
    omega
end HEAPROWS
end
section
theorem gt_1 {w : Cond} {i : Nat} (h : tables_1_1[i]? = some w) (g : goodWord w = true) : w ∈ gt := List.mem_filter.mpr ⟨List.mem_append_right _ (List.mem_append_left _ (List.mem_of_getElem? h)), g⟩
theorem gt_2 {w : Cond} {i : Nat} (h : tables_1_2[i]? = some w) (g : goodWord w = true) : w ∈ gt := List.mem_filter.mpr ⟨List.mem_append_right _ (List.mem_append_right _ (List.mem_append_left _ (List.mem_of_getElem? h))), g⟩
theorem gt_3 {w : Cond} {i : Nat} (h : tables_1_3[i]? = some w) (g : goodWord w = true) : w ∈ gt := List.mem_filter.mpr ⟨List.mem_append_right _ (List.mem_append_right _ (List.mem_append_right _ (List.mem_append_left _ (List.mem_of_getElem? h)))), g⟩
theorem gt_4 {w : Cond} {i : Nat} (h : tables_1_4[i]? = some w) (g : goodWord w = true) : w ∈ gt := List.mem_filter.mpr ⟨List.mem_append_right _ (List.mem_append_right _ (List.mem_append_right _ (List.mem_append_right _ (List.mem_of_getElem? h)))), g⟩
theorem gt_0 {w : Cond} {i : Nat} (h : (k2_sels lw_privs)[i]? = some w) (g : goodWord w = true) : w ∈ gt := List.mem_filter.mpr ⟨List.mem_append_left _ (List.mem_of_getElem? h), g⟩
/-! WHAT THE TABLES SAY, by program out of the printed names -/
theorem uX0 : ∀ w ∈ u_ws RX0 TX0 12, w ∈ gt := by
  intro w hw
  obtain ⟨k, hk, rfl⟩ := List.mem_map.mp hw
  have hk := List.mem_range.mp hk
  match k, hk with
  | 0, _ => exact gt_1 (i := 92) rfl rfl
  | 1, _ => exact gt_1 (i := 94) rfl rfl
  | 2, _ => exact gt_1 (i := 96) rfl rfl
  | 3, _ => exact gt_1 (i := 98) rfl rfl
  | 4, _ => exact gt_1 (i := 100) rfl rfl
  | 5, _ => exact gt_1 (i := 102) rfl rfl
  | 6, _ => exact gt_1 (i := 104) rfl rfl
  | 7, _ => exact gt_1 (i := 106) rfl rfl
  | 8, _ => exact gt_1 (i := 108) rfl rfl
  | 9, _ => exact gt_1 (i := 110) rfl rfl
  | 10, _ => exact gt_1 (i := 112) rfl rfl
  | 11, _ => exact gt_1 (i := 114) rfl rfl
  | k + 12, h => exact absurd h (by omega)
theorem uX2 : ∀ w ∈ u_ws RX2 TX2 5, w ∈ gt := by
  intro w hw
  obtain ⟨k, hk, rfl⟩ := List.mem_map.mp hw
  have hk := List.mem_range.mp hk
  match k, hk with
  | 0, _ => exact gt_1 (i := 41) rfl rfl
  | 1, _ => exact gt_1 (i := 43) rfl rfl
  | 2, _ => exact gt_1 (i := 45) rfl rfl
  | 3, _ => exact gt_1 (i := 47) rfl rfl
  | 4, _ => exact gt_1 (i := 49) rfl rfl
  | k + 5, h => exact absurd h (by omega)
theorem uX3 : ∀ w ∈ u_ws RX3 TX3 9, w ∈ gt := by
  intro w hw
  obtain ⟨k, hk, rfl⟩ := List.mem_map.mp hw
  have hk := List.mem_range.mp hk
  match k, hk with
  | 0, _ => exact gt_1 (i := 135) rfl rfl
  | 1, _ => exact gt_1 (i := 137) rfl rfl
  | 2, _ => exact gt_1 (i := 139) rfl rfl
  | 3, _ => exact gt_1 (i := 141) rfl rfl
  | 4, _ => exact gt_1 (i := 143) rfl rfl
  | 5, _ => exact gt_1 (i := 145) rfl rfl
  | 6, _ => exact gt_1 (i := 147) rfl rfl
  | 7, _ => exact gt_1 (i := 149) rfl rfl
  | 8, _ => exact gt_1 (i := 151) rfl rfl
  | k + 9, h => exact absurd h (by omega)
theorem uX4 : ∀ w ∈ u_ws RX4 TX4 4, w ∈ gt := by
  intro w hw
  obtain ⟨k, hk, rfl⟩ := List.mem_map.mp hw
  have hk := List.mem_range.mp hk
  match k, hk with
  | 0, _ => exact gt_1 (i := 173) rfl rfl
  | 1, _ => exact gt_1 (i := 175) rfl rfl
  | 2, _ => exact gt_1 (i := 177) rfl rfl
  | 3, _ => exact gt_1 (i := 179) rfl rfl
  | k + 4, h => exact absurd h (by omega)
theorem uX5 : ∀ w ∈ u_ws RX5 TX5 1, w ∈ gt := by
  intro w hw
  obtain ⟨k, hk, rfl⟩ := List.mem_map.mp hw
  have hk := List.mem_range.mp hk
  match k, hk with
  | 0, _ => exact gt_1 (i := 68) rfl rfl
  | k + 1, h => exact absurd h (by omega)
theorem uX6 : ∀ w ∈ u_ws RX6 TX6 10, w ∈ gt := by
  intro w hw
  obtain ⟨k, hk, rfl⟩ := List.mem_map.mp hw
  have hk := List.mem_range.mp hk
  match k, hk with
  | 0, _ => exact gt_1 (i := 194) rfl rfl
  | 1, _ => exact gt_1 (i := 196) rfl rfl
  | 2, _ => exact gt_1 (i := 198) rfl rfl
  | 3, _ => exact gt_1 (i := 200) rfl rfl
  | 4, _ => exact gt_1 (i := 202) rfl rfl
  | 5, _ => exact gt_1 (i := 204) rfl rfl
  | 6, _ => exact gt_1 (i := 206) rfl rfl
  | 7, _ => exact gt_1 (i := 208) rfl rfl
  | 8, _ => exact gt_1 (i := 210) rfl rfl
  | 9, _ => exact gt_1 (i := 212) rfl rfl
  | k + 10, h => exact absurd h (by omega)
theorem uX7 : ∀ w ∈ u_ws RX7 TX7 27, w ∈ gt := by
  intro w hw
  obtain ⟨k, hk, rfl⟩ := List.mem_map.mp hw
  have hk := List.mem_range.mp hk
  match k, hk with
  | 0, _ => exact gt_3 (i := 128) rfl rfl
  | 1, _ => exact gt_3 (i := 130) rfl rfl
  | 2, _ => exact gt_3 (i := 132) rfl rfl
  | 3, _ => exact gt_3 (i := 134) rfl rfl
  | 4, _ => exact gt_3 (i := 136) rfl rfl
  | 5, _ => exact gt_3 (i := 138) rfl rfl
  | 6, _ => exact gt_3 (i := 140) rfl rfl
  | 7, _ => exact gt_3 (i := 142) rfl rfl
  | 8, _ => exact gt_3 (i := 144) rfl rfl
  | 9, _ => exact gt_3 (i := 146) rfl rfl
  | 10, _ => exact gt_3 (i := 148) rfl rfl
  | 11, _ => exact gt_3 (i := 150) rfl rfl
  | 12, _ => exact gt_3 (i := 152) rfl rfl
  | 13, _ => exact gt_3 (i := 154) rfl rfl
  | 14, _ => exact gt_3 (i := 156) rfl rfl
  | 15, _ => exact gt_3 (i := 158) rfl rfl
  | 16, _ => exact gt_3 (i := 160) rfl rfl
  | 17, _ => exact gt_3 (i := 162) rfl rfl
  | 18, _ => exact gt_3 (i := 164) rfl rfl
  | 19, _ => exact gt_3 (i := 166) rfl rfl
  | 20, _ => exact gt_3 (i := 168) rfl rfl
  | 21, _ => exact gt_3 (i := 170) rfl rfl
  | 22, _ => exact gt_3 (i := 172) rfl rfl
  | 23, _ => exact gt_3 (i := 174) rfl rfl
  | 24, _ => exact gt_3 (i := 176) rfl rfl
  | 25, _ => exact gt_3 (i := 178) rfl rfl
  | 26, _ => exact gt_3 (i := 180) rfl rfl
  | k + 27, h => exact absurd h (by omega)
theorem fl_RX0_9 : Cond.fieldLink RX0 9 "PageMender$Code" "polynomial" "[I" ∈ gt := gt_1 (i := 73) rfl rfl
theorem fl_RX0_15 : Cond.fieldLink RX0 15 "PageMender$Code" "highSteps" "[J" ∈ gt := gt_1 (i := 75) rfl rfl
theorem fl_RX0_19 : Cond.fieldLink RX0 19 "PageMender$Code" "lowSteps" "[J" ∈ gt := gt_1 (i := 76) rfl rfl
theorem fl_RX0_22 : Cond.fieldLink RX0 22 "PageMender$Code" "rest" "[I" ∈ gt := gt_1 (i := 77) rfl rfl
theorem fl_RX0_28 : Cond.fieldLink RX0 28 "PageMender$Code" "ones" "LPageMender$Row;" ∈ gt := gt_1 (i := 78) rfl rfl
theorem fl_RX0_32 : Cond.fieldLink RX0 32 "PageMender$Code" "field" "LPageMender$Field;" ∈ gt := gt_1 (i := 72) rfl rfl
theorem fl_RX0_36 : Cond.fieldLink RX0 36 "PageMender$Code" "t" "I" ∈ gt := gt_1 (i := 80) rfl rfl
theorem fl_RX0_40 : Cond.fieldLink RX0 40 "PageMender$Code" "d" "I" ∈ gt := gt_1 (i := 83) rfl rfl
theorem fl_RX0_46 : Cond.fieldLink RX0 46 "PageMender$Code" "\x72" "I" ∈ gt := gt_1 (i := 85) rfl rfl
theorem fl_RX0_49 : Cond.fieldLink RX0 49 "PageMender$Code" "n" "I" ∈ gt := gt_1 (i := 87) rfl rfl
theorem fl_RX0_65 : Cond.fieldLink RX0 65 "PageMender$Field" "m" "I" ∈ gt := gt_1 (i := 35) rfl rfl
theorem fl_RX0_91 : Cond.fieldLink RX0 91 "PageMender$Code" "high" "J" ∈ gt := gt_1 (i := 90) rfl rfl
theorem fl_RX0_95 : Cond.fieldLink RX0 95 "PageMender$Code" "low" "J" ∈ gt := gt_1 (i := 91) rfl rfl
theorem fl_RX0_114 : Cond.fieldLink RX0 114 "PageMender$Field" "order" "I" ∈ gt := gt_1 (i := 40) rfl rfl
theorem fl_RX0_120 : Cond.fieldLink RX0 120 "PageMender$Field" "powers" "[I" ∈ gt := gt_1 (i := 29) rfl rfl
theorem fl_RX2_9 : Cond.fieldLink RX2 9 "PageMender$Field" "powers" "[I" ∈ gt := gt_1 (i := 27) rfl rfl
theorem fl_RX2_15 : Cond.fieldLink RX2 15 "PageMender$Field" "logs" "[I" ∈ gt := gt_1 (i := 30) rfl rfl
theorem fl_RX2_18 : Cond.fieldLink RX2 18 "PageMender$Field" "coefficients" "[I" ∈ gt := gt_1 (i := 33) rfl rfl
theorem fl_RX2_21 : Cond.fieldLink RX2 21 "PageMender$Field" "m" "I" ∈ gt := gt_1 (i := 34) rfl rfl
theorem fl_RX2_25 : Cond.fieldLink RX2 25 "PageMender$Field" "order" "I" ∈ gt := gt_1 (i := 37) rfl rfl
theorem fl_RX2_28 : Cond.fieldLink RX2 28 "PageMender$Field" "POLYNOMIALS" "[I" ∈ gt := gt_2 (i := 7) rfl rfl
theorem fl_RX3_12 : Cond.fieldLink RX3 12 "PageMender$Mender" "word" "LPageMender$Row;" ∈ gt := gt_1 (i := 127) rfl rfl
theorem fl_RX3_18 : Cond.fieldLink RX3 18 "PageMender$Mender" "syndromes" "[I" ∈ gt := gt_1 (i := 129) rfl rfl
theorem fl_RX3_22 : Cond.fieldLink RX3 22 "PageMender$Mender" "locator" "[I" ∈ gt := gt_1 (i := 130) rfl rfl
theorem fl_RX3_25 : Cond.fieldLink RX3 25 "PageMender$Mender" "earlier" "[I" ∈ gt := gt_1 (i := 131) rfl rfl
theorem fl_RX3_28 : Cond.fieldLink RX3 28 "PageMender$Mender" "spare" "[I" ∈ gt := gt_1 (i := 132) rfl rfl
theorem fl_RX3_31 : Cond.fieldLink RX3 31 "PageMender$Mender" "logs" "[I" ∈ gt := gt_1 (i := 133) rfl rfl
theorem fl_RX3_34 : Cond.fieldLink RX3 34 "PageMender$Mender" "wrong" "[I" ∈ gt := gt_1 (i := 134) rfl rfl
theorem fl_RX3_37 : Cond.fieldLink RX3 37 "PageMender$Mender" "field" "LPageMender$Field;" ∈ gt := gt_1 (i := 125) rfl rfl
theorem fl_RX3_41 : Cond.fieldLink RX3 41 "PageMender$Mender" "code" "LPageMender$Code;" ∈ gt := gt_1 (i := 126) rfl rfl
theorem fl_RX3_45 : Cond.fieldLink RX3 45 "PageMender$Page" "marks" "LPageMender$Row;" ∈ gt := gt_1 (i := 169) rfl rfl
theorem fl_RX3_54 : Cond.fieldLink RX3 54 "PageMender$Code" "t" "I" ∈ gt := gt_1 (i := 81) rfl rfl
theorem fl_RX3_64 : Cond.fieldLink RX3 64 "PageMender$Page" "bits" "LPageMender$Row;" ∈ gt := gt_1 (i := 164) rfl rfl
theorem fl_RX3_71 : Cond.fieldLink RX3 71 "PageMender$Row" "longs" "[J" ∈ gt := gt_1 (i := 67) rfl rfl
theorem fl_RX3_143 : Cond.fieldLink RX3 143 "PageMender$Field" "logs" "[I" ∈ gt := gt_1 (i := 32) rfl rfl
theorem fl_RX3_144 : Cond.fieldLink RX3 144 "PageMender$Code" "n" "I" ∈ gt := gt_1 (i := 88) rfl rfl
theorem fl_RX3_147 : Cond.fieldLink RX3 147 "PageMender$Field" "order" "I" ∈ gt := gt_1 (i := 39) rfl rfl
theorem fl_RX3_158 : Cond.fieldLink RX3 158 "PageMender$Field" "powers" "[I" ∈ gt := gt_1 (i := 28) rfl rfl
theorem fl_RX4_12 : Cond.fieldLink RX4 12 "PageMender$Page" "bits" "LPageMender$Row;" ∈ gt := gt_1 (i := 163) rfl rfl
theorem fl_RX4_18 : Cond.fieldLink RX4 18 "PageMender$Page" "stuck" "LPageMender$Row;" ∈ gt := gt_1 (i := 166) rfl rfl
theorem fl_RX4_21 : Cond.fieldLink RX4 21 "PageMender$Page" "marks" "LPageMender$Row;" ∈ gt := gt_1 (i := 168) rfl rfl
theorem fl_RX4_31 : Cond.fieldLink RX4 31 "PageMender$Page" "wear" "I" ∈ gt := gt_1 (i := 171) rfl rfl
theorem fl_RX4_35 : Cond.fieldLink RX4 35 "PageMender$Row" "longs" "[J" ∈ gt := gt_1 (i := 66) rfl rfl
theorem fl_RX5_9 : Cond.fieldLink RX5 9 "PageMender$Row" "longs" "[J" ∈ gt := gt_1 (i := 65) rfl rfl
theorem fl_RX6_12 : Cond.fieldLink RX6 12 "PageMender" "field" "LPageMender$Field;" ∈ gt := gt_1 (i := 184) rfl rfl
theorem fl_RX6_21 : Cond.fieldLink RX6 21 "PageMender" "code" "LPageMender$Code;" ∈ gt := gt_1 (i := 185) rfl rfl
theorem fl_RX6_30 : Cond.fieldLink RX6 30 "PageMender" "mender" "LPageMender$Mender;" ∈ gt := gt_1 (i := 186) rfl rfl
theorem fl_RX6_36 : Cond.fieldLink RX6 36 "PageMender" "pages" "[LPageMender$Page;" ∈ gt := gt_1 (i := 187) rfl rfl
theorem fl_RX6_44 : Cond.fieldLink RX6 44 "PageMender" "buffer" "LPageMender$Row;" ∈ gt := gt_1 (i := 188) rfl rfl
theorem fl_RX6_48 : Cond.fieldLink RX6 48 "PageMender" "turnedBits" "LPageMender$Row;" ∈ gt := gt_1 (i := 189) rfl rfl
theorem fl_RX6_64 : Cond.fieldLink RX6 64 "PageMender$Code" "ones" "LPageMender$Row;" ∈ gt := gt_1 (i := 79) rfl rfl
theorem fl_RX6_74 : Cond.fieldLink RX6 74 "PageMender" "readsMended" "I" ∈ gt := gt_1 (i := 191) rfl rfl
theorem fl_RX6_78 : Cond.fieldLink RX6 78 "PageMender" "readsRight" "I" ∈ gt := gt_1 (i := 192) rfl rfl
theorem fl_RX6_81 : Cond.fieldLink RX6 81 "PageMender" "readsLost" "I" ∈ gt := gt_1 (i := 193) rfl rfl
theorem fl_RX6_84 : Cond.fieldLink RX6 84 "PageMender" "opened" "Z" ∈ gt := gt_1 (i := 190) rfl rfl
theorem fl_RX6_104 : Cond.fieldLink RX6 104 "PageMender$Field" "logs" "[I" ∈ gt := gt_1 (i := 31) rfl rfl
theorem fl_RX6_108 : Cond.fieldLink RX6 108 "PageMender$Field" "order" "I" ∈ gt := gt_1 (i := 38) rfl rfl
theorem fl_RX6_114 : Cond.fieldLink RX6 114 "PageMender$Code" "\x72" "I" ∈ gt := gt_1 (i := 86) rfl rfl
theorem fl_RX6_117 : Cond.fieldLink RX6 117 "PageMender$Code" "polynomial" "[I" ∈ gt := gt_1 (i := 74) rfl rfl
theorem fl_RX6_129 : Cond.fieldLink RX6 129 "PageMender$Code" "d" "I" ∈ gt := gt_1 (i := 84) rfl rfl
theorem fl_RX6_153 : Cond.fieldLink RX6 153 "PageMender$Page" "wear" "I" ∈ gt := gt_1 (i := 172) rfl rfl
theorem fl_RX6_165 : Cond.fieldLink RX6 165 "PageMender$Page" "stuck" "LPageMender$Row;" ∈ gt := gt_1 (i := 167) rfl rfl
theorem fl_RX6_171 : Cond.fieldLink RX6 171 "PageMender$Page" "marks" "LPageMender$Row;" ∈ gt := gt_1 (i := 170) rfl rfl
theorem fl_RX6_177 : Cond.fieldLink RX6 177 "PageMender$Page" "bits" "LPageMender$Row;" ∈ gt := gt_1 (i := 165) rfl rfl
theorem fl_RX6_184 : Cond.fieldLink RX6 184 "PageMender$Mender" "word" "LPageMender$Row;" ∈ gt := gt_1 (i := 128) rfl rfl
theorem fl_RX6_193 : Cond.fieldLink RX6 193 "PageMender$Code" "n" "I" ∈ gt := gt_1 (i := 89) rfl rfl
theorem fl_RX6_196 : Cond.fieldLink RX6 196 "PageMender$Code" "t" "I" ∈ gt := gt_1 (i := 82) rfl rfl
theorem fl_RX6_212 : Cond.fieldLink RX6 212 "PageMender$Field" "m" "I" ∈ gt := gt_1 (i := 36) rfl rfl
theorem fl_RX7_7 : Cond.fieldLink RX7 7 "PageMenderModel" "powers" "[I" ∈ gt := gt_3 (i := 108) rfl rfl
theorem fl_RX7_13 : Cond.fieldLink RX7 13 "PageMenderModel" "logs" "[I" ∈ gt := gt_3 (i := 109) rfl rfl
theorem fl_RX7_16 : Cond.fieldLink RX7 16 "PageMenderModel" "generator" "[I" ∈ gt := gt_3 (i := 110) rfl rfl
theorem fl_RX7_19 : Cond.fieldLink RX7 19 "PageMenderModel" "buffer" "[I" ∈ gt := gt_3 (i := 111) rfl rfl
theorem fl_RX7_23 : Cond.fieldLink RX7 23 "PageMenderModel" "bits" "[Z" ∈ gt := gt_3 (i := 112) rfl rfl
theorem fl_RX7_27 : Cond.fieldLink RX7 27 "PageMenderModel" "stuck" "[I" ∈ gt := gt_3 (i := 113) rfl rfl
theorem fl_RX7_30 : Cond.fieldLink RX7 30 "PageMenderModel" "marks" "[Z" ∈ gt := gt_3 (i := 114) rfl rfl
theorem fl_RX7_33 : Cond.fieldLink RX7 33 "PageMenderModel" "wear" "[I" ∈ gt := gt_3 (i := 115) rfl rfl
theorem fl_RX7_36 : Cond.fieldLink RX7 36 "PageMenderModel" "turned" "[I" ∈ gt := gt_3 (i := 116) rfl rfl
theorem fl_RX7_39 : Cond.fieldLink RX7 39 "PageMenderModel" "made" "[I" ∈ gt := gt_3 (i := 121) rfl rfl
theorem fl_RX7_42 : Cond.fieldLink RX7 42 "PageMenderModel" "spare" "[I" ∈ gt := gt_3 (i := 122) rfl rfl
theorem fl_RX7_45 : Cond.fieldLink RX7 45 "PageMenderModel" "word" "[Z" ∈ gt := gt_3 (i := 123) rfl rfl
theorem fl_RX7_48 : Cond.fieldLink RX7 48 "PageMenderModel" "left" "[I" ∈ gt := gt_3 (i := 124) rfl rfl
theorem fl_RX7_51 : Cond.fieldLink RX7 51 "PageMenderModel" "syndromes" "[I" ∈ gt := gt_3 (i := 125) rfl rfl
theorem fl_RX7_54 : Cond.fieldLink RX7 54 "PageMenderModel" "lines" "[I" ∈ gt := gt_3 (i := 126) rfl rfl
theorem fl_RX7_57 : Cond.fieldLink RX7 57 "PageMenderModel" "locator" "[I" ∈ gt := gt_3 (i := 127) rfl rfl
theorem fl_RX7_64 : Cond.fieldLink RX7 64 "PageMenderModel" "all" "I" ∈ gt := gt_3 (i := 107) rfl rfl
theorem fl_RX7_86 : Cond.fieldLink RX7 86 "PageMenderModel" "m" "I" ∈ gt := gt_3 (i := 102) rfl rfl
theorem fl_RX7_100 : Cond.fieldLink RX7 100 "PageMenderModel" "isOpen" "Z" ∈ gt := gt_3 (i := 101) rfl rfl
theorem fl_RX7_104 : Cond.fieldLink RX7 104 "PageMenderModel" "t" "I" ∈ gt := gt_3 (i := 103) rfl rfl
theorem fl_RX7_107 : Cond.fieldLink RX7 107 "PageMenderModel" "d" "I" ∈ gt := gt_3 (i := 104) rfl rfl
theorem fl_RX7_110 : Cond.fieldLink RX7 110 "PageMenderModel" "\x72" "I" ∈ gt := gt_3 (i := 105) rfl rfl
theorem fl_RX7_113 : Cond.fieldLink RX7 113 "PageMenderModel" "n" "I" ∈ gt := gt_3 (i := 106) rfl rfl
theorem fl_RX7_116 : Cond.fieldLink RX7 116 "PageMenderModel" "turns" "I" ∈ gt := gt_3 (i := 117) rfl rfl
theorem fl_RX7_119 : Cond.fieldLink RX7 119 "PageMenderModel" "mended" "I" ∈ gt := gt_3 (i := 118) rfl rfl
theorem fl_RX7_122 : Cond.fieldLink RX7 122 "PageMenderModel" "right" "I" ∈ gt := gt_3 (i := 119) rfl rfl
theorem fl_RX7_125 : Cond.fieldLink RX7 125 "PageMenderModel" "lost" "I" ∈ gt := gt_3 (i := 120) rfl rfl
theorem ml_RL_9 : Cond.methodLink RL 9 yX6_init ∈ gt := gt_1 (i := 15) rfl rfl
theorem ml_RL_12 : Cond.methodLink RL 12 yX7_init ∈ gt := gt_3 (i := 96) rfl rfl
theorem ml_RL_13 : Cond.methodLink RL 13 yX6_open ∈ gt := gt_1 (i := 215) rfl rfl
theorem ml_RL_17 : Cond.methodLink RL 17 yX7_open ∈ gt := gt_3 (i := 184) rfl rfl
theorem ml_RL_18 : Cond.methodLink RL 18 yX6_times ∈ gt := gt_2 (i := 79) rfl rfl
theorem ml_RL_22 : Cond.methodLink RL 22 yX7_times ∈ gt := gt_3 (i := 221) rfl rfl
theorem ml_RL_23 : Cond.methodLink RL 23 yX6_inverse ∈ gt := gt_2 (i := 88) rfl rfl
theorem ml_RL_27 : Cond.methodLink RL 27 yX7_inverse ∈ gt := gt_3 (i := 229) rfl rfl
theorem ml_RL_28 : Cond.methodLink RL 28 yX6_power ∈ gt := gt_2 (i := 96) rfl rfl
theorem ml_RL_31 : Cond.methodLink RL 31 yX7_power ∈ gt := gt_3 (i := 237) rfl rfl
theorem ml_RL_32 : Cond.methodLink RL 32 yX6_log ∈ gt := gt_2 (i := 106) rfl rfl
theorem ml_RL_35 : Cond.methodLink RL 35 yX7_log ∈ gt := gt_4 (i := 3) rfl rfl
theorem ml_RL_36 : Cond.methodLink RL 36 yX6_minimal ∈ gt := gt_2 (i := 110) rfl rfl
theorem ml_RL_39 : Cond.methodLink RL 39 yX7_minimal ∈ gt := gt_4 (i := 7) rfl rfl
theorem ml_RL_40 : Cond.methodLink RL 40 yX6_generator ∈ gt := gt_2 (i := 115) rfl rfl
theorem ml_RL_43 : Cond.methodLink RL 43 yX7_generator ∈ gt := gt_4 (i := 11) rfl rfl
theorem ml_RL_44 : Cond.methodLink RL 44 yX6_put ∈ gt := gt_2 (i := 119) rfl rfl
theorem ml_RL_47 : Cond.methodLink RL 47 yX7_put ∈ gt := gt_4 (i := 15) rfl rfl
theorem ml_RL_50 : Cond.methodLink RL 50 yX6_fill ∈ gt := gt_2 (i := 136) rfl rfl
theorem ml_RL_54 : Cond.methodLink RL 54 yX7_fill ∈ gt := gt_4 (i := 19) rfl rfl
theorem ml_RL_55 : Cond.methodLink RL 55 yX6_get ∈ gt := gt_2 (i := 141) rfl rfl
theorem ml_RL_58 : Cond.methodLink RL 58 yX7_get ∈ gt := gt_4 (i := 24) rfl rfl
theorem ml_RL_59 : Cond.methodLink RL 59 yX6_tail ∈ gt := gt_2 (i := 145) rfl rfl
theorem ml_RL_62 : Cond.methodLink RL 62 yX7_tail ∈ gt := gt_4 (i := 28) rfl rfl
theorem ml_RL_63 : Cond.methodLink RL 63 yX6_write ∈ gt := gt_2 (i := 167) rfl rfl
theorem ml_RL_66 : Cond.methodLink RL 66 yX7_write ∈ gt := gt_4 (i := 36) rfl rfl
theorem ml_RL_67 : Cond.methodLink RL 67 yX6_erase ∈ gt := gt_2 (i := 189) rfl rfl
theorem ml_RL_70 : Cond.methodLink RL 70 yX7_erase ∈ gt := gt_4 (i := 51) rfl rfl
theorem ml_RL_71 : Cond.methodLink RL 71 yX6_flip ∈ gt := gt_2 (i := 198) rfl rfl
theorem ml_RL_74 : Cond.methodLink RL 74 yX7_flip ∈ gt := gt_4 (i := 59) rfl rfl
theorem ml_RL_75 : Cond.methodLink RL 75 yX6_stick ∈ gt := gt_2 (i := 212) rfl rfl
theorem ml_RL_78 : Cond.methodLink RL 78 yX7_stick ∈ gt := gt_4 (i := 67) rfl rfl
theorem ml_RL_79 : Cond.methodLink RL 79 yX6_mark ∈ gt := gt_2 (i := 224) rfl rfl
theorem ml_RL_83 : Cond.methodLink RL 83 yX7_mark ∈ gt := gt_4 (i := 75) rfl rfl
theorem ml_RL_84 : Cond.methodLink RL 84 yX6_bit ∈ gt := gt_2 (i := 229) rfl rfl
theorem ml_RL_87 : Cond.methodLink RL 87 yX7_bit ∈ gt := gt_4 (i := 83) rfl rfl
theorem ml_RL_88 : Cond.methodLink RL 88 yX6_read ∈ gt := gt_2 (i := 233) rfl rfl
theorem ml_RL_91 : Cond.methodLink RL 91 yX7_read ∈ gt := gt_4 (i := 87) rfl rfl
theorem ml_RL_92 : Cond.methodLink RL 92 yX6_turned ∈ gt := gt_3 (i := 63) rfl rfl
theorem ml_RL_95 : Cond.methodLink RL 95 yX7_turned ∈ gt := gt_4 (i := 107) rfl rfl
theorem ml_RL_96 : Cond.methodLink RL 96 yX6_syndrome ∈ gt := gt_3 (i := 67) rfl rfl
theorem ml_RL_99 : Cond.methodLink RL 99 yX7_syndrome ∈ gt := gt_4 (i := 111) rfl rfl
theorem ml_RL_100 : Cond.methodLink RL 100 yX6_copy ∈ gt := gt_3 (i := 73) rfl rfl
theorem ml_RL_103 : Cond.methodLink RL 103 yX7_copy ∈ gt := gt_4 (i := 115) rfl rfl
theorem ml_RL_104 : Cond.methodLink RL 104 yX6_refresh ∈ gt := gt_3 (i := 81) rfl rfl
theorem ml_RL_107 : Cond.methodLink RL 107 yX7_refresh ∈ gt := gt_4 (i := 119) rfl rfl
theorem ml_RL_108 : Cond.methodLink RL 108 yX6_told ∈ gt := gt_3 (i := 85) rfl rfl
theorem ml_RL_111 : Cond.methodLink RL 111 yX7_told ∈ gt := gt_4 (i := 123) rfl rfl
theorem ml_RL_112 : Cond.methodLink RL 112 yX6_about ∈ gt := gt_3 (i := 90) rfl rfl
theorem ml_RL_115 : Cond.methodLink RL 115 yX7_about ∈ gt := gt_4 (i := 131) rfl rfl
theorem ml_RX0_3 : Cond.methodLink RX0 3 objectInit ∈ gt := gt_1 (i := 58) rfl rfl
theorem ml_RX0_43 : Cond.methodLink RX0 43 yX0_makePolynomial ∈ gt := gt_2 (i := 13) rfl rfl
theorem ml_RX0_52 : Cond.methodLink RX0 52 yX5_becomeFirstOnes ∈ gt := gt_2 (i := 42) rfl rfl
theorem ml_RX0_56 : Cond.methodLink RX0 56 yX0_makeSteps ∈ gt := gt_2 (i := 58) rfl rfl
theorem ml_RX0_59 : Cond.methodLink RX0 59 yJ7_fill_53178 ∈ gt := gt_2 (i := 17) rfl rfl
theorem ml_RX0_70 : Cond.methodLink RX0 70 yX1_isNew ∈ gt := gt_2 (i := 20) rfl rfl
theorem ml_RX0_76 : Cond.methodLink RX0 76 yX2_minimalPolynomial ∈ gt := gt_2 (i := 21) rfl rfl
theorem ml_RX0_80 : Cond.methodLink RX0 80 yX1_size ∈ gt := gt_2 (i := 37) rfl rfl
theorem ml_RX0_84 : Cond.methodLink RX0 84 yX0_multiplyBy ∈ gt := gt_2 (i := 38) rfl rfl
theorem ml_RX0_88 : Cond.methodLink RX0 88 yX0_loadPolynomial ∈ gt := gt_2 (i := 62) rfl rfl
theorem ml_RX0_98 : Cond.methodLink RX0 98 yX5_byteAt ∈ gt := gt_2 (i := 157) rfl rfl
theorem ml_RX0_101 : Cond.methodLink RX0 101 yX0_takeData ∈ gt := gt_2 (i := 153) rfl rfl
theorem ml_RX0_105 : Cond.methodLink RX0 105 yX0_registerAt ∈ gt := gt_2 (i := 158) rfl rfl
theorem ml_RX0_108 : Cond.methodLink RX0 108 yX5_set ∈ gt := gt_2 (i := 162) rfl rfl
theorem ml_RX0_111 : Cond.methodLink RX0 111 yX5_at ∈ gt := gt_3 (i := 15) rfl rfl
theorem ml_RX0_117 : Cond.methodLink RX0 117 yX1_reduced ∈ gt := gt_3 (i := 24) rfl rfl
theorem ml_RX1_7 : Cond.methodLink RX1 7 yJ9_floorMod_7cf53 ∈ gt := gt_1 (i := 231) rfl rfl
theorem ml_RX1_13 : Cond.methodLink RX1 13 yX1_reduced ∈ gt := gt_1 (i := 228) rfl rfl
theorem ml_RX1_18 : Cond.methodLink RX1 18 yX1_doubled ∈ gt := gt_1 (i := 234) rfl rfl
theorem ml_RX1_21 : Cond.methodLink RX1 21 yJ9_min_7cf53 ∈ gt := gt_1 (i := 237) rfl rfl
theorem ml_RX1_24 : Cond.methodLink RX1 24 yX1_least ∈ gt := gt_1 (i := 225) rfl rfl
theorem ml_RX1_27 : Cond.methodLink RX1 27 yX1_isNew ∈ gt := gt_1 (i := 222) rfl rfl
theorem ml_RX1_31 : Cond.methodLink RX1 31 yX1_size ∈ gt := gt_2 (i := 0) rfl rfl
theorem ml_RX2_3 : Cond.methodLink RX2 3 objectInit ∈ gt := gt_1 (i := 26) rfl rfl
theorem ml_RX2_31 : Cond.methodLink RX2 31 yX1_reduced ∈ gt := gt_2 (i := 27) rfl rfl
theorem ml_RX2_37 : Cond.methodLink RX2 37 yX1_size ∈ gt := gt_2 (i := 25) rfl rfl
theorem ml_RX2_40 : Cond.methodLink RX2 40 yJ7_fill_53178 ∈ gt := gt_2 (i := 26) rfl rfl
theorem ml_RX2_46 : Cond.methodLink RX2 46 yX2_multiplyByRoot ∈ gt := gt_2 (i := 28) rfl rfl
theorem ml_RX2_50 : Cond.methodLink RX2 50 yX1_doubled ∈ gt := gt_2 (i := 36) rfl rfl
theorem ml_RX2_53 : Cond.methodLink RX2 53 yX2_product ∈ gt := gt_2 (i := 32) rfl rfl
theorem ml_RX3_3 : Cond.methodLink RX3 3 objectInit ∈ gt := gt_1 (i := 122) rfl rfl
theorem ml_RX3_50 : Cond.methodLink RX3 50 yX5_ones ∈ gt := gt_3 (i := 1) rfl rfl
theorem ml_RX3_60 : Cond.methodLink RX3 60 yX3_isMended ∈ gt := gt_3 (i := 2) rfl rfl
theorem ml_RX3_67 : Cond.methodLink RX3 67 yX5_apart ∈ gt := gt_3 (i := 57) rfl rfl
theorem ml_RX3_77 : Cond.methodLink RX3 77 yX3_becomesRight ∈ gt := gt_3 (i := 7) rfl rfl
theorem ml_RX3_81 : Cond.methodLink RX3 81 yX3_apartBesidesMarks ∈ gt := gt_3 (i := 52) rfl rfl
theorem ml_RX3_85 : Cond.methodLink RX3 85 yJ13_bitCount_95d88 ∈ gt := gt_3 (i := 56) rfl rfl
theorem ml_RX3_91 : Cond.methodLink RX3 91 yX0_divide ∈ gt := gt_3 (i := 11) rfl rfl
theorem ml_RX3_95 : Cond.methodLink RX3 95 yX3_takeSyndromes ∈ gt := gt_3 (i := 16) rfl rfl
theorem ml_RX3_98 : Cond.methodLink RX3 98 yX3_locate ∈ gt := gt_3 (i := 26) rfl rfl
theorem ml_RX3_101 : Cond.methodLink RX3 101 yX3_findWrong ∈ gt := gt_3 (i := 41) rfl rfl
theorem ml_RX3_105 : Cond.methodLink RX3 105 yX5_at ∈ gt := gt_3 (i := 50) rfl rfl
theorem ml_RX3_109 : Cond.methodLink RX3 109 yX5_set ∈ gt := gt_3 (i := 51) rfl rfl
theorem ml_RX3_113 : Cond.methodLink RX3 113 yX0_restAt ∈ gt := gt_3 (i := 20) rfl rfl
theorem ml_RX3_116 : Cond.methodLink RX3 116 yX2_product ∈ gt := gt_3 (i := 25) rfl rfl
theorem ml_RX3_122 : Cond.methodLink RX3 122 yJ7_fill_53178 ∈ gt := gt_3 (i := 30) rfl rfl
theorem ml_RX3_128 : Cond.methodLink RX3 128 yX3_missAt ∈ gt := gt_3 (i := 31) rfl rfl
theorem ml_RX3_131 : Cond.methodLink RX3 131 yX2_reciprocal ∈ gt := gt_3 (i := 35) rfl rfl
theorem ml_RX3_134 : Cond.methodLink RX3 134 arraycopyName ∈ gt := gt_3 (i := 36) rfl rfl
theorem ml_RX3_140 : Cond.methodLink RX3 140 yX3_addEarlier ∈ gt := gt_3 (i := 37) rfl rfl
theorem ml_RX3_150 : Cond.methodLink RX3 150 yX1_reduced ∈ gt := gt_3 (i := 45) rfl rfl
theorem ml_RX3_155 : Cond.methodLink RX3 155 yX3_locatorIsZero ∈ gt := gt_3 (i := 46) rfl rfl
theorem ml_RX4_3 : Cond.methodLink RX4 3 objectInit ∈ gt := gt_1 (i := 160) rfl rfl
theorem ml_RX4_24 : Cond.methodLink RX4 24 yX5_clear ∈ gt := gt_2 (i := 70) rfl rfl
theorem ml_RX4_27 : Cond.methodLink RX4 27 yX5_become ∈ gt := gt_2 (i := 71) rfl rfl
theorem ml_RX4_41 : Cond.methodLink RX4 41 yX5_apart ∈ gt := gt_2 (i := 179) rfl rfl
theorem ml_RX4_45 : Cond.methodLink RX4 45 yX5_at ∈ gt := gt_2 (i := 210) rfl rfl
theorem ml_RX4_49 : Cond.methodLink RX4 49 yX5_set ∈ gt := gt_2 (i := 211) rfl rfl
theorem ml_RX5_3 : Cond.methodLink RX5 3 objectInit ∈ gt := gt_1 (i := 64) rfl rfl
theorem ml_RX5_19 : Cond.methodLink RX5 19 yJ13_bitCount_95d88 ∈ gt := gt_2 (i := 183) rfl rfl
theorem ml_RX5_25 : Cond.methodLink RX5 25 yJ7_fill_d0a16 ∈ gt := gt_2 (i := 50) rfl rfl
theorem ml_RX5_31 : Cond.methodLink RX5 31 arraycopyName ∈ gt := gt_2 (i := 75) rfl rfl
theorem ml_RX5_37 : Cond.methodLink RX5 37 yX5_clear ∈ gt := gt_2 (i := 46) rfl rfl
theorem ml_RX5_40 : Cond.methodLink RX5 40 yX5_set ∈ gt := gt_2 (i := 53) rfl rfl
theorem ml_RX6_3 : Cond.methodLink RX6 3 objectInit ∈ gt := gt_1 (i := 18) rfl rfl
theorem ml_RX6_18 : Cond.methodLink RX6 18 yX0_init ∈ gt := gt_1 (i := 55) rfl rfl
theorem ml_RX6_27 : Cond.methodLink RX6 27 yX3_init ∈ gt := gt_1 (i := 119) rfl rfl
theorem ml_RX6_51 : Cond.methodLink RX6 51 yX1_tailLength ∈ gt := gt_1 (i := 219) rfl rfl
theorem ml_RX6_57 : Cond.methodLink RX6 57 yX2_become ∈ gt := gt_2 (i := 3) rfl rfl
theorem ml_RX6_61 : Cond.methodLink RX6 61 yX0_become ∈ gt := gt_2 (i := 9) rfl rfl
theorem ml_RX6_67 : Cond.methodLink RX6 67 yX4_renew ∈ gt := gt_2 (i := 66) rfl rfl
theorem ml_RX6_71 : Cond.methodLink RX6 71 yX5_clear ∈ gt := gt_2 (i := 78) rfl rfl
theorem ml_RX6_88 : Cond.methodLink RX6 88 yX2_has ∈ gt := gt_2 (i := 83) rfl rfl
theorem ml_RX6_92 : Cond.methodLink RX6 92 yX2_product ∈ gt := gt_2 (i := 87) rfl rfl
theorem ml_RX6_95 : Cond.methodLink RX6 95 yX2_reciprocal ∈ gt := gt_2 (i := 92) rfl rfl
theorem ml_RX6_101 : Cond.methodLink RX6 101 yX2_powerOfA ∈ gt := gt_2 (i := 102) rfl rfl
theorem ml_RX6_111 : Cond.methodLink RX6 111 yX2_minimalPolynomial ∈ gt := gt_2 (i := 114) rfl rfl
theorem ml_RX6_120 : Cond.methodLink RX6 120 yX6_hasByte ∈ gt := gt_2 (i := 123) rfl rfl
theorem ml_RX6_123 : Cond.methodLink RX6 123 yX5_byteAt ∈ gt := gt_2 (i := 127) rfl rfl
theorem ml_RX6_126 : Cond.methodLink RX6 126 yX5_setByte ∈ gt := gt_2 (i := 131) rfl rfl
theorem ml_RX6_132 : Cond.methodLink RX6 132 yJ9_min_7cf53 ∈ gt := gt_2 (i := 140) rfl rfl
theorem ml_RX6_137 : Cond.methodLink RX6 137 yX0_complete ∈ gt := gt_2 (i := 149) rfl rfl
theorem ml_RX6_140 : Cond.methodLink RX6 140 yX5_at ∈ gt := gt_2 (i := 163) rfl rfl
theorem ml_RX6_143 : Cond.methodLink RX6 143 yX6_hasPage ∈ gt := gt_2 (i := 171) rfl rfl
theorem ml_RX6_146 : Cond.methodLink RX6 146 yX4_program ∈ gt := gt_2 (i := 175) rfl rfl
theorem ml_RX6_150 : Cond.methodLink RX6 150 yX4_wipe ∈ gt := gt_2 (i := 193) rfl rfl
theorem ml_RX6_156 : Cond.methodLink RX6 156 yX6_hasBit ∈ gt := gt_2 (i := 202) rfl rfl
theorem ml_RX6_159 : Cond.methodLink RX6 159 yX4_turn ∈ gt := gt_2 (i := 206) rfl rfl
theorem ml_RX6_162 : Cond.methodLink RX6 162 yX4_hold ∈ gt := gt_2 (i := 216) rfl rfl
theorem ml_RX6_168 : Cond.methodLink RX6 168 yX5_ones ∈ gt := gt_2 (i := 220) rfl rfl
theorem ml_RX6_174 : Cond.methodLink RX6 174 yX5_set ∈ gt := gt_2 (i := 228) rfl rfl
theorem ml_RX6_180 : Cond.methodLink RX6 180 yX3_mend ∈ gt := gt_2 (i := 237) rfl rfl
theorem ml_RX6_187 : Cond.methodLink RX6 187 yX5_become ∈ gt := gt_3 (i := 58) rfl rfl
theorem ml_RX6_189 : Cond.methodLink RX6 189 yX5_becomeDifference ∈ gt := gt_3 (i := 59) rfl rfl
theorem ml_RX6_199 : Cond.methodLink RX6 199 yX0_divide ∈ gt := gt_3 (i := 71) rfl rfl
theorem ml_RX6_203 : Cond.methodLink RX6 203 yX0_restAt ∈ gt := gt_3 (i := 72) rfl rfl
theorem ml_RX6_206 : Cond.methodLink RX6 206 yX6_rewrite ∈ gt := gt_3 (i := 77) rfl rfl
theorem ml_RX6_209 : Cond.methodLink RX6 209 yX5_apart ∈ gt := gt_3 (i := 89) rfl rfl
theorem ml_RX7_1 : Cond.methodLink RX7 1 objectInit ∈ gt := gt_3 (i := 99) rfl rfl
theorem ml_RX7_60 : Cond.methodLink RX7 60 yX7_polynomial ∈ gt := gt_3 (i := 198) rfl rfl
theorem ml_RX7_68 : Cond.methodLink RX7 68 yX7_within ∈ gt := gt_3 (i := 188) rfl rfl
theorem ml_RX7_72 : Cond.methodLink RX7 72 yX7_by ∈ gt := gt_3 (i := 217) rfl rfl
theorem ml_RX7_76 : Cond.methodLink RX7 76 yX7_exponent ∈ gt := gt_3 (i := 209) rfl rfl
theorem ml_RX7_80 : Cond.methodLink RX7 80 yX7_generatorAt ∈ gt := gt_3 (i := 205) rfl rfl
theorem ml_RX7_83 : Cond.methodLink RX7 83 yX7_minimalOf ∈ gt := gt_3 (i := 213) rfl rfl
theorem ml_RX7_89 : Cond.methodLink RX7 89 yX7_product ∈ gt := gt_3 (i := 195) rfl rfl
theorem ml_RX7_93 : Cond.methodLink RX7 93 yX7_makeField ∈ gt := gt_3 (i := 191) rfl rfl
theorem ml_RX7_97 : Cond.methodLink RX7 97 yX7_makeGenerator ∈ gt := gt_3 (i := 201) rfl rfl
theorem ml_RX7_128 : Cond.methodLink RX7 128 yX7_isNumber ∈ gt := gt_3 (i := 225) rfl rfl
theorem ml_RX7_132 : Cond.methodLink RX7 132 yX7_over ∈ gt := gt_3 (i := 233) rfl rfl
theorem ml_RX7_139 : Cond.methodLink RX7 139 yX7_complete ∈ gt := gt_4 (i := 32) rfl rfl
theorem ml_RX7_142 : Cond.methodLink RX7 142 yX7_isPage ∈ gt := gt_4 (i := 40) rfl rfl
theorem ml_RX7_145 : Cond.methodLink RX7 145 yX7_set ∈ gt := gt_4 (i := 47) rfl rfl
theorem ml_RX7_149 : Cond.methodLink RX7 149 yX7_program ∈ gt := gt_4 (i := 43) rfl rfl
theorem ml_RX7_152 : Cond.methodLink RX7 152 yX7_wipe ∈ gt := gt_4 (i := 55) rfl rfl
theorem ml_RX7_155 : Cond.methodLink RX7 155 yX7_isBit ∈ gt := gt_4 (i := 63) rfl rfl
theorem ml_RX7_159 : Cond.methodLink RX7 159 yX7_countStuck ∈ gt := gt_4 (i := 71) rfl rfl
theorem ml_RX7_162 : Cond.methodLink RX7 162 yX7_countMarks ∈ gt := gt_4 (i := 79) rfl rfl
theorem ml_RX7_165 : Cond.methodLink RX7 165 yX7_isRight ∈ gt := gt_4 (i := 99) rfl rfl
theorem ml_RX7_169 : Cond.methodLink RX7 169 yX7_solves ∈ gt := gt_4 (i := 103) rfl rfl
theorem ml_RX7_172 : Cond.methodLink RX7 172 yX7_isMended ∈ gt := gt_4 (i := 95) rfl rfl
theorem ml_RX7_175 : Cond.methodLink RX7 175 yX7_mend ∈ gt := gt_4 (i := 91) rfl rfl
theorem ml_RX7_178 : Cond.methodLink RX7 178 yX7_countZeros ∈ gt := gt_4 (i := 127) rfl rfl
theorem cl_RL_7 : Cond.classLink RL 7 RX6 ∈ gt := gt_1 (i := 13) rfl rfl
theorem cl_RL_10 : Cond.classLink RL 10 RX7 ∈ gt := gt_3 (i := 94) rfl rfl
theorem cl_RX0_25 : Cond.classLink RX0 25 RX5 ∈ gt := gt_1 (i := 59) rfl rfl
theorem cl_RX3_9 : Cond.classLink RX3 9 RX5 ∈ gt := gt_1 (i := 123) rfl rfl
theorem cl_RX4_9 : Cond.classLink RX4 9 RX5 ∈ gt := gt_1 (i := 161) rfl rfl
theorem cl_RX6_9 : Cond.classLink RX6 9 RX2 ∈ gt := gt_1 (i := 21) rfl rfl
theorem cl_RX6_16 : Cond.classLink RX6 16 RX0 ∈ gt := gt_1 (i := 53) rfl rfl
theorem cl_RX6_25 : Cond.classLink RX6 25 RX3 ∈ gt := gt_1 (i := 117) rfl rfl
theorem cl_RX6_34 : Cond.classLink RX6 34 RX4 ∈ gt := gt_1 (i := 154) rfl rfl
theorem cl_RX6_41 : Cond.classLink RX6 41 RX5 ∈ gt := gt_1 (i := 182) rfl rfl
theorem kl_RJ13_314 : Cond.constantLong RJ13 314 (6148914691236517205) ∈ gt := gt_2 (i := 186) rfl rfl
theorem kl_RJ13_316 : Cond.constantLong RJ13 316 (3689348814741910323) ∈ gt := gt_2 (i := 187) rfl rfl
theorem kl_RJ13_318 : Cond.constantLong RJ13 318 (1085102592571150095) ∈ gt := gt_2 (i := 188) rfl rfl
theorem kl_RL_48 : Cond.constantLong RL 48 (4294967295) ∈ gt := gt_4 (i := 135) rfl rfl
theorem kl_RX3_75 : Cond.constantLong RX3 75 (-1) ∈ gt := gt_3 (i := 6) rfl rfl
theorem kl_RX4_39 : Cond.constantLong RX4 39 (-1) ∈ gt := gt_2 (i := 197) rfl rfl
theorem kl_RX5_15 : Cond.constantLong RX5 15 (-1) ∈ gt := gt_2 (i := 57) rfl rfl
theorem kl_RX5_17 : Cond.constantLong RX5 17 (255) ∈ gt := gt_2 (i := 135) rfl rfl
theorem kl_RX7_137 : Cond.constantLong RX7 137 (255) ∈ gt := gt_4 (i := 23) rfl rfl
theorem ki_RX6_99 : Cond.constant RX6 99 (-100000) ∈ gt := gt_2 (i := 100) rfl rfl
theorem ki_RX6_100 : Cond.constant RX6 100 (100000) ∈ gt := gt_2 (i := 101) rfl rfl
theorem ki_RX7_22 : Cond.constant RX7 22 (35200) ∈ gt := gt_3 (i := 100) rfl rfl
theorem ki_RX7_135 : Cond.constant RX7 135 (-100000) ∈ gt := gt_4 (i := 1) rfl rfl
theorem ki_RX7_136 : Cond.constant RX7 136 (100000) ∈ gt := gt_4 (i := 2) rfl rfl
theorem oi_in : Cond.instanceMethod objectInit ∈ gt := gt_1 (i := 19) rfl rfl
theorem oi_co : Cond.code objectInit ⟨#[0xb1]⟩ 1 none ∈ gt := gt_1 (i := 20) rfl rfl
theorem ac_nat : Cond.native arraycopyName ∈ gt := gt_2 (i := 77) rfl rfl
theorem ac_sta : Cond.static arraycopyName ∈ gt := gt_2 (i := 76) rfl rfl
theorem ac_ini : Cond.initialized "java/lang/System" ∈ gt := gt_1 (i := 11) rfl rfl
theorem aw_i : Cond.arrayClass .int ∈ gt := gt_1 (i := 52) rfl rfl
theorem aw_l : Cond.arrayClass .long ∈ gt := gt_1 (i := 71) rfl rfl
theorem aw_z : Cond.arrayClass .boolean ∈ gt := gt_3 (i := 183) rfl rfl
theorem ins_0 : Cond.instantiable RX0 12 ∈ gt := gt_1 (i := 54) rfl rfl
theorem ini_0 : Cond.initialized RX0 ∈ gt := gt_1 (i := 3) rfl rfl
theorem ins_2 : Cond.instantiable RX2 5 ∈ gt := gt_1 (i := 22) rfl rfl
theorem ini_2 : Cond.initialized RX2 ∈ gt := gt_1 (i := 2) rfl rfl
theorem ins_3 : Cond.instantiable RX3 9 ∈ gt := gt_1 (i := 118) rfl rfl
theorem ini_3 : Cond.initialized RX3 ∈ gt := gt_1 (i := 5) rfl rfl
theorem ins_4 : Cond.instantiable RX4 4 ∈ gt := gt_1 (i := 156) rfl rfl
theorem ini_4 : Cond.initialized RX4 ∈ gt := gt_1 (i := 6) rfl rfl
theorem ins_5 : Cond.instantiable RX5 1 ∈ gt := gt_1 (i := 60) rfl rfl
theorem ini_5 : Cond.initialized RX5 ∈ gt := gt_1 (i := 4) rfl rfl
theorem ins_6 : Cond.instantiable RX6 10 ∈ gt := gt_1 (i := 14) rfl rfl
theorem ini_6 : Cond.initialized RX6 ∈ gt := gt_1 (i := 1) rfl rfl
theorem ins_7 : Cond.instantiable RX7 27 ∈ gt := gt_3 (i := 95) rfl rfl
theorem ini_7 : Cond.initialized RX7 ∈ gt := gt_1 (i := 7) rfl rfl
abbrev jJ13_bitCount_95d88 : Jt := (yJ13_bitCount_95d88, cJ13_bitCount_95d88, 2, (some .int))
theorem mk_J13_bitCount_95d88 : Mk jJ13_bitCount_95d88 1 := ⟨gt_2 (i := 185) rfl rfl, gt_1 (i := 12) rfl rfl, by decide +kernel, by decide +kernel, by decide +kernel, by decide +kernel⟩
theorem st_J13_bitCount_95d88 : Cond.static yJ13_bitCount_95d88 ∈ gt := gt_2 (i := 184) rfl rfl
abbrev jJ7_fill_53178 : Jt := (yJ7_fill_53178, cJ7_fill_53178, 4, none)
theorem mk_J7_fill_53178 : Mk jJ7_fill_53178 2 := ⟨gt_2 (i := 19) rfl rfl, gt_1 (i := 10) rfl rfl, by decide +kernel, by decide +kernel, by decide +kernel, by decide +kernel⟩
theorem st_J7_fill_53178 : Cond.static yJ7_fill_53178 ∈ gt := gt_2 (i := 18) rfl rfl
abbrev jJ7_fill_d0a16 : Jt := (yJ7_fill_d0a16, cJ7_fill_d0a16, 5, none)
theorem mk_J7_fill_d0a16 : Mk jJ7_fill_d0a16 2 := ⟨gt_2 (i := 52) rfl rfl, gt_1 (i := 10) rfl rfl, by decide +kernel, by decide +kernel, by decide +kernel, by decide +kernel⟩
theorem st_J7_fill_d0a16 : Cond.static yJ7_fill_d0a16 ∈ gt := gt_2 (i := 51) rfl rfl
abbrev jJ9_floorMod_7cf53 : Jt := (yJ9_floorMod_7cf53, cJ9_floorMod_7cf53, 3, (some .int))
theorem mk_J9_floorMod_7cf53 : Mk jJ9_floorMod_7cf53 2 := ⟨gt_1 (i := 233) rfl rfl, gt_1 (i := 9) rfl rfl, by decide +kernel, by decide +kernel, by decide +kernel, by decide +kernel⟩
theorem st_J9_floorMod_7cf53 : Cond.static yJ9_floorMod_7cf53 ∈ gt := gt_1 (i := 232) rfl rfl
abbrev jJ9_min_7cf53 : Jt := (yJ9_min_7cf53, cJ9_min_7cf53, 2, (some .int))
theorem mk_J9_min_7cf53 : Mk jJ9_min_7cf53 2 := ⟨gt_1 (i := 239) rfl rfl, gt_1 (i := 9) rfl rfl, by decide +kernel, by decide +kernel, by decide +kernel, by decide +kernel⟩
theorem st_J9_min_7cf53 : Cond.static yJ9_min_7cf53 ∈ gt := gt_1 (i := 238) rfl rfl
abbrev jL_law : Jt := (yL_law, cL_law, 4, ret)
abbrev jX0_become : Jt := (yX0_become, cX0_become, 3, none)
theorem mk_X0_become : Mk jX0_become 2 := ⟨gt_2 (i := 12) rfl rfl, gt_1 (i := 3) rfl rfl, by decide +kernel, by decide +kernel, by decide +kernel, by decide +kernel⟩
theorem in_X0_become : Cond.instanceMethod yX0_become ∈ gt := gt_2 (i := 10) rfl rfl
theorem se_X0_become : Cond.selects RX0 yX0_become yX0_become ∈ gt := gt_2 (i := 11) rfl rfl
abbrev jX0_complete : Jt := (yX0_complete, cX0_complete, 3, none)
theorem mk_X0_complete : Mk jX0_complete 1 := ⟨gt_2 (i := 152) rfl rfl, gt_1 (i := 3) rfl rfl, by decide +kernel, by decide +kernel, by decide +kernel, by decide +kernel⟩
theorem in_X0_complete : Cond.instanceMethod yX0_complete ∈ gt := gt_2 (i := 150) rfl rfl
theorem se_X0_complete : Cond.selects RX0 yX0_complete yX0_complete ∈ gt := gt_2 (i := 151) rfl rfl
abbrev jX0_divide : Jt := (yX0_divide, cX0_divide, 5, (some .boolean))
theorem mk_X0_divide : Mk jX0_divide 1 := ⟨gt_3 (i := 14) rfl rfl, gt_1 (i := 3) rfl rfl, by decide +kernel, by decide +kernel, by decide +kernel, by decide +kernel⟩
theorem in_X0_divide : Cond.instanceMethod yX0_divide ∈ gt := gt_3 (i := 12) rfl rfl
theorem se_X0_divide : Cond.selects RX0 yX0_divide yX0_divide ∈ gt := gt_3 (i := 13) rfl rfl
abbrev jX0_init : Jt := (yX0_init, cX0_init, 2, none)
theorem mk_X0_init : Mk jX0_init 1 := ⟨gt_1 (i := 57) rfl rfl, gt_1 (i := 3) rfl rfl, by decide +kernel, by decide +kernel, by decide +kernel, by decide +kernel⟩
theorem in_X0_init : Cond.instanceMethod yX0_init ∈ gt := gt_1 (i := 56) rfl rfl
abbrev jX0_loadPolynomial : Jt := (yX0_loadPolynomial, cX0_loadPolynomial, 4, none)
theorem mk_X0_loadPolynomial : Mk jX0_loadPolynomial 0 := ⟨gt_2 (i := 65) rfl rfl, gt_1 (i := 3) rfl rfl, by decide +kernel, by decide +kernel, by decide +kernel, by decide +kernel⟩
theorem in_X0_loadPolynomial : Cond.instanceMethod yX0_loadPolynomial ∈ gt := gt_2 (i := 64) rfl rfl
theorem se_X0_loadPolynomial : Cond.selects RX0 yX0_loadPolynomial yX0_loadPolynomial ∈ gt := gt_0 (i := 4) rfl rfl
abbrev jX0_makePolynomial : Jt := (yX0_makePolynomial, cX0_makePolynomial, 2, none)
theorem mk_X0_makePolynomial : Mk jX0_makePolynomial 0 := ⟨gt_2 (i := 16) rfl rfl, gt_1 (i := 3) rfl rfl, by decide +kernel, by decide +kernel, by decide +kernel, by decide +kernel⟩
theorem in_X0_makePolynomial : Cond.instanceMethod yX0_makePolynomial ∈ gt := gt_2 (i := 15) rfl rfl
theorem se_X0_makePolynomial : Cond.selects RX0 yX0_makePolynomial yX0_makePolynomial ∈ gt := gt_0 (i := 0) rfl rfl
abbrev jX0_makeSteps : Jt := (yX0_makeSteps, cX0_makeSteps, 7, none)
theorem mk_X0_makeSteps : Mk jX0_makeSteps 0 := ⟨gt_2 (i := 61) rfl rfl, gt_1 (i := 3) rfl rfl, by decide +kernel, by decide +kernel, by decide +kernel, by decide +kernel⟩
theorem in_X0_makeSteps : Cond.instanceMethod yX0_makeSteps ∈ gt := gt_2 (i := 60) rfl rfl
theorem se_X0_makeSteps : Cond.selects RX0 yX0_makeSteps yX0_makeSteps ∈ gt := gt_0 (i := 3) rfl rfl
abbrev jX0_multiplyBy : Jt := (yX0_multiplyBy, cX0_multiplyBy, 5, none)
theorem mk_X0_multiplyBy : Mk jX0_multiplyBy 2 := ⟨gt_2 (i := 41) rfl rfl, gt_1 (i := 3) rfl rfl, by decide +kernel, by decide +kernel, by decide +kernel, by decide +kernel⟩
theorem in_X0_multiplyBy : Cond.instanceMethod yX0_multiplyBy ∈ gt := gt_2 (i := 40) rfl rfl
theorem se_X0_multiplyBy : Cond.selects RX0 yX0_multiplyBy yX0_multiplyBy ∈ gt := gt_0 (i := 2) rfl rfl
abbrev jX0_registerAt : Jt := (yX0_registerAt, cX0_registerAt, 2, (some .int))
theorem mk_X0_registerAt : Mk jX0_registerAt 1 := ⟨gt_2 (i := 161) rfl rfl, gt_1 (i := 3) rfl rfl, by decide +kernel, by decide +kernel, by decide +kernel, by decide +kernel⟩
theorem in_X0_registerAt : Cond.instanceMethod yX0_registerAt ∈ gt := gt_2 (i := 160) rfl rfl
theorem se_X0_registerAt : Cond.selects RX0 yX0_registerAt yX0_registerAt ∈ gt := gt_0 (i := 7) rfl rfl
abbrev jX0_restAt : Jt := (yX0_restAt, cX0_restAt, 7, (some .int))
theorem mk_X0_restAt : Mk jX0_restAt 1 := ⟨gt_3 (i := 23) rfl rfl, gt_1 (i := 3) rfl rfl, by decide +kernel, by decide +kernel, by decide +kernel, by decide +kernel⟩
theorem in_X0_restAt : Cond.instanceMethod yX0_restAt ∈ gt := gt_3 (i := 21) rfl rfl
theorem se_X0_restAt : Cond.selects RX0 yX0_restAt yX0_restAt ∈ gt := gt_3 (i := 22) rfl rfl
abbrev jX0_takeData : Jt := (yX0_takeData, cX0_takeData, 4, none)
theorem mk_X0_takeData : Mk jX0_takeData 1 := ⟨gt_2 (i := 156) rfl rfl, gt_1 (i := 3) rfl rfl, by decide +kernel, by decide +kernel, by decide +kernel, by decide +kernel⟩
theorem in_X0_takeData : Cond.instanceMethod yX0_takeData ∈ gt := gt_2 (i := 155) rfl rfl
theorem se_X0_takeData : Cond.selects RX0 yX0_takeData yX0_takeData ∈ gt := gt_0 (i := 6) rfl rfl
abbrev jX1_doubled : Jt := (yX1_doubled, cX1_doubled, 2, (some .int))
theorem mk_X1_doubled : Mk jX1_doubled 2 := ⟨gt_1 (i := 236) rfl rfl, gt_1 (i := 8) rfl rfl, by decide +kernel, by decide +kernel, by decide +kernel, by decide +kernel⟩
theorem st_X1_doubled : Cond.static yX1_doubled ∈ gt := gt_1 (i := 235) rfl rfl
abbrev jX1_isNew : Jt := (yX1_isNew, cX1_isNew, 4, (some .boolean))
theorem mk_X1_isNew : Mk jX1_isNew 2 := ⟨gt_1 (i := 224) rfl rfl, gt_1 (i := 8) rfl rfl, by decide +kernel, by decide +kernel, by decide +kernel, by decide +kernel⟩
theorem st_X1_isNew : Cond.static yX1_isNew ∈ gt := gt_1 (i := 223) rfl rfl
abbrev jX1_least : Jt := (yX1_least, cX1_least, 6, (some .int))
theorem mk_X1_least : Mk jX1_least 2 := ⟨gt_1 (i := 227) rfl rfl, gt_1 (i := 8) rfl rfl, by decide +kernel, by decide +kernel, by decide +kernel, by decide +kernel⟩
theorem st_X1_least : Cond.static yX1_least ∈ gt := gt_1 (i := 226) rfl rfl
abbrev jX1_reduced : Jt := (yX1_reduced, cX1_reduced, 2, (some .int))
theorem mk_X1_reduced : Mk jX1_reduced 2 := ⟨gt_1 (i := 230) rfl rfl, gt_1 (i := 8) rfl rfl, by decide +kernel, by decide +kernel, by decide +kernel, by decide +kernel⟩
theorem st_X1_reduced : Cond.static yX1_reduced ∈ gt := gt_1 (i := 229) rfl rfl
abbrev jX1_size : Jt := (yX1_size, cX1_size, 6, (some .int))
theorem mk_X1_size : Mk jX1_size 2 := ⟨gt_2 (i := 2) rfl rfl, gt_1 (i := 8) rfl rfl, by decide +kernel, by decide +kernel, by decide +kernel, by decide +kernel⟩
theorem st_X1_size : Cond.static yX1_size ∈ gt := gt_2 (i := 1) rfl rfl
abbrev jX1_tailLength : Jt := (yX1_tailLength, cX1_tailLength, 4, (some .int))
theorem mk_X1_tailLength : Mk jX1_tailLength 2 := ⟨gt_1 (i := 221) rfl rfl, gt_1 (i := 8) rfl rfl, by decide +kernel, by decide +kernel, by decide +kernel, by decide +kernel⟩
theorem st_X1_tailLength : Cond.static yX1_tailLength ∈ gt := gt_1 (i := 220) rfl rfl
abbrev jX2_become : Jt := (yX2_become, cX2_become, 5, none)
theorem mk_X2_become : Mk jX2_become 1 := ⟨gt_2 (i := 6) rfl rfl, gt_1 (i := 2) rfl rfl, by decide +kernel, by decide +kernel, by decide +kernel, by decide +kernel⟩
theorem in_X2_become : Cond.instanceMethod yX2_become ∈ gt := gt_2 (i := 4) rfl rfl
theorem se_X2_become : Cond.selects RX2 yX2_become yX2_become ∈ gt := gt_2 (i := 5) rfl rfl
abbrev jX2_has : Jt := (yX2_has, cX2_has, 2, (some .boolean))
theorem mk_X2_has : Mk jX2_has 1 := ⟨gt_2 (i := 86) rfl rfl, gt_1 (i := 2) rfl rfl, by decide +kernel, by decide +kernel, by decide +kernel, by decide +kernel⟩
theorem in_X2_has : Cond.instanceMethod yX2_has ∈ gt := gt_2 (i := 84) rfl rfl
theorem se_X2_has : Cond.selects RX2 yX2_has yX2_has ∈ gt := gt_2 (i := 85) rfl rfl
abbrev jX2_init : Jt := (yX2_init, cX2_init, 1, none)
theorem mk_X2_init : Mk jX2_init 0 := ⟨gt_1 (i := 25) rfl rfl, gt_1 (i := 2) rfl rfl, by decide +kernel, by decide +kernel, by decide +kernel, by decide +kernel⟩
theorem in_X2_init : Cond.instanceMethod yX2_init ∈ gt := gt_1 (i := 24) rfl rfl
abbrev jX2_minimalPolynomial : Jt := (yX2_minimalPolynomial, cX2_minimalPolynomial, 6, (some .int))
theorem mk_X2_minimalPolynomial : Mk jX2_minimalPolynomial 1 := ⟨gt_2 (i := 24) rfl rfl, gt_1 (i := 2) rfl rfl, by decide +kernel, by decide +kernel, by decide +kernel, by decide +kernel⟩
theorem in_X2_minimalPolynomial : Cond.instanceMethod yX2_minimalPolynomial ∈ gt := gt_2 (i := 22) rfl rfl
theorem se_X2_minimalPolynomial : Cond.selects RX2 yX2_minimalPolynomial yX2_minimalPolynomial ∈ gt := gt_2 (i := 23) rfl rfl
abbrev jX2_multiplyByRoot : Jt := (yX2_multiplyByRoot, cX2_multiplyByRoot, 4, none)
theorem mk_X2_multiplyByRoot : Mk jX2_multiplyByRoot 2 := ⟨gt_2 (i := 31) rfl rfl, gt_1 (i := 2) rfl rfl, by decide +kernel, by decide +kernel, by decide +kernel, by decide +kernel⟩
theorem in_X2_multiplyByRoot : Cond.instanceMethod yX2_multiplyByRoot ∈ gt := gt_2 (i := 30) rfl rfl
theorem se_X2_multiplyByRoot : Cond.selects RX2 yX2_multiplyByRoot yX2_multiplyByRoot ∈ gt := gt_0 (i := 1) rfl rfl
abbrev jX2_powerOfA : Jt := (yX2_powerOfA, cX2_powerOfA, 2, (some .int))
theorem mk_X2_powerOfA : Mk jX2_powerOfA 1 := ⟨gt_2 (i := 105) rfl rfl, gt_1 (i := 2) rfl rfl, by decide +kernel, by decide +kernel, by decide +kernel, by decide +kernel⟩
theorem in_X2_powerOfA : Cond.instanceMethod yX2_powerOfA ∈ gt := gt_2 (i := 103) rfl rfl
theorem se_X2_powerOfA : Cond.selects RX2 yX2_powerOfA yX2_powerOfA ∈ gt := gt_2 (i := 104) rfl rfl
abbrev jX2_product : Jt := (yX2_product, cX2_product, 4, (some .int))
theorem mk_X2_product : Mk jX2_product 2 := ⟨gt_2 (i := 35) rfl rfl, gt_1 (i := 2) rfl rfl, by decide +kernel, by decide +kernel, by decide +kernel, by decide +kernel⟩
theorem in_X2_product : Cond.instanceMethod yX2_product ∈ gt := gt_2 (i := 33) rfl rfl
theorem se_X2_product : Cond.selects RX2 yX2_product yX2_product ∈ gt := gt_2 (i := 34) rfl rfl
abbrev jX2_reciprocal : Jt := (yX2_reciprocal, cX2_reciprocal, 3, (some .int))
theorem mk_X2_reciprocal : Mk jX2_reciprocal 1 := ⟨gt_2 (i := 95) rfl rfl, gt_1 (i := 2) rfl rfl, by decide +kernel, by decide +kernel, by decide +kernel, by decide +kernel⟩
theorem in_X2_reciprocal : Cond.instanceMethod yX2_reciprocal ∈ gt := gt_2 (i := 93) rfl rfl
theorem se_X2_reciprocal : Cond.selects RX2 yX2_reciprocal yX2_reciprocal ∈ gt := gt_2 (i := 94) rfl rfl
abbrev jX3_addEarlier : Jt := (yX3_addEarlier, cX3_addEarlier, 4, none)
theorem mk_X3_addEarlier : Mk jX3_addEarlier 2 := ⟨gt_3 (i := 40) rfl rfl, gt_1 (i := 5) rfl rfl, by decide +kernel, by decide +kernel, by decide +kernel, by decide +kernel⟩
theorem in_X3_addEarlier : Cond.instanceMethod yX3_addEarlier ∈ gt := gt_3 (i := 39) rfl rfl
theorem se_X3_addEarlier : Cond.selects RX3 yX3_addEarlier yX3_addEarlier ∈ gt := gt_0 (i := 15) rfl rfl
abbrev jX3_apartBesidesMarks : Jt := (yX3_apartBesidesMarks, cX3_apartBesidesMarks, 4, (some .int))
theorem mk_X3_apartBesidesMarks : Mk jX3_apartBesidesMarks 1 := ⟨gt_3 (i := 55) rfl rfl, gt_1 (i := 5) rfl rfl, by decide +kernel, by decide +kernel, by decide +kernel, by decide +kernel⟩
theorem in_X3_apartBesidesMarks : Cond.instanceMethod yX3_apartBesidesMarks ∈ gt := gt_3 (i := 54) rfl rfl
theorem se_X3_apartBesidesMarks : Cond.selects RX3 yX3_apartBesidesMarks yX3_apartBesidesMarks ∈ gt := gt_0 (i := 18) rfl rfl
abbrev jX3_becomesRight : Jt := (yX3_becomesRight, cX3_becomesRight, 3, (some .boolean))
theorem mk_X3_becomesRight : Mk jX3_becomesRight 0 := ⟨gt_3 (i := 10) rfl rfl, gt_1 (i := 5) rfl rfl, by decide +kernel, by decide +kernel, by decide +kernel, by decide +kernel⟩
theorem in_X3_becomesRight : Cond.instanceMethod yX3_becomesRight ∈ gt := gt_3 (i := 9) rfl rfl
theorem se_X3_becomesRight : Cond.selects RX3 yX3_becomesRight yX3_becomesRight ∈ gt := gt_0 (i := 11) rfl rfl
abbrev jX3_findWrong : Jt := (yX3_findWrong, cX3_findWrong, 4, (some .boolean))
theorem mk_X3_findWrong : Mk jX3_findWrong 1 := ⟨gt_3 (i := 44) rfl rfl, gt_1 (i := 5) rfl rfl, by decide +kernel, by decide +kernel, by decide +kernel, by decide +kernel⟩
theorem in_X3_findWrong : Cond.instanceMethod yX3_findWrong ∈ gt := gt_3 (i := 43) rfl rfl
theorem se_X3_findWrong : Cond.selects RX3 yX3_findWrong yX3_findWrong ∈ gt := gt_0 (i := 16) rfl rfl
abbrev jX3_init : Jt := (yX3_init, cX3_init, 3, none)
theorem mk_X3_init : Mk jX3_init 2 := ⟨gt_1 (i := 121) rfl rfl, gt_1 (i := 5) rfl rfl, by decide +kernel, by decide +kernel, by decide +kernel, by decide +kernel⟩
theorem in_X3_init : Cond.instanceMethod yX3_init ∈ gt := gt_1 (i := 120) rfl rfl
abbrev jX3_isMended : Jt := (yX3_isMended, cX3_isMended, 9, (some .boolean))
theorem mk_X3_isMended : Mk jX3_isMended 3 := ⟨gt_3 (i := 5) rfl rfl, gt_1 (i := 5) rfl rfl, by decide +kernel, by decide +kernel, by decide +kernel, by decide +kernel⟩
theorem in_X3_isMended : Cond.instanceMethod yX3_isMended ∈ gt := gt_3 (i := 4) rfl rfl
theorem se_X3_isMended : Cond.selects RX3 yX3_isMended yX3_isMended ∈ gt := gt_0 (i := 10) rfl rfl
abbrev jX3_locate : Jt := (yX3_locate, cX3_locate, 7, (some .int))
theorem mk_X3_locate : Mk jX3_locate 0 := ⟨gt_3 (i := 29) rfl rfl, gt_1 (i := 5) rfl rfl, by decide +kernel, by decide +kernel, by decide +kernel, by decide +kernel⟩
theorem in_X3_locate : Cond.instanceMethod yX3_locate ∈ gt := gt_3 (i := 28) rfl rfl
theorem se_X3_locate : Cond.selects RX3 yX3_locate yX3_locate ∈ gt := gt_0 (i := 13) rfl rfl
abbrev jX3_locatorIsZero : Jt := (yX3_locatorIsZero, cX3_locatorIsZero, 4, (some .boolean))
theorem mk_X3_locatorIsZero : Mk jX3_locatorIsZero 1 := ⟨gt_3 (i := 49) rfl rfl, gt_1 (i := 5) rfl rfl, by decide +kernel, by decide +kernel, by decide +kernel, by decide +kernel⟩
theorem in_X3_locatorIsZero : Cond.instanceMethod yX3_locatorIsZero ∈ gt := gt_3 (i := 48) rfl rfl
theorem se_X3_locatorIsZero : Cond.selects RX3 yX3_locatorIsZero yX3_locatorIsZero ∈ gt := gt_0 (i := 17) rfl rfl
abbrev jX3_mend : Jt := (yX3_mend, cX3_mend, 4, (some .int))
theorem mk_X3_mend : Mk jX3_mend 1 := ⟨gt_3 (i := 0) rfl rfl, gt_1 (i := 5) rfl rfl, by decide +kernel, by decide +kernel, by decide +kernel, by decide +kernel⟩
theorem in_X3_mend : Cond.instanceMethod yX3_mend ∈ gt := gt_2 (i := 238) rfl rfl
theorem se_X3_mend : Cond.selects RX3 yX3_mend yX3_mend ∈ gt := gt_2 (i := 239) rfl rfl
abbrev jX3_missAt : Jt := (yX3_missAt, cX3_missAt, 5, (some .int))
theorem mk_X3_missAt : Mk jX3_missAt 2 := ⟨gt_3 (i := 34) rfl rfl, gt_1 (i := 5) rfl rfl, by decide +kernel, by decide +kernel, by decide +kernel, by decide +kernel⟩
theorem in_X3_missAt : Cond.instanceMethod yX3_missAt ∈ gt := gt_3 (i := 33) rfl rfl
theorem se_X3_missAt : Cond.selects RX3 yX3_missAt yX3_missAt ∈ gt := gt_0 (i := 14) rfl rfl
abbrev jX3_takeSyndromes : Jt := (yX3_takeSyndromes, cX3_takeSyndromes, 3, none)
theorem mk_X3_takeSyndromes : Mk jX3_takeSyndromes 0 := ⟨gt_3 (i := 19) rfl rfl, gt_1 (i := 5) rfl rfl, by decide +kernel, by decide +kernel, by decide +kernel, by decide +kernel⟩
theorem in_X3_takeSyndromes : Cond.instanceMethod yX3_takeSyndromes ∈ gt := gt_3 (i := 18) rfl rfl
theorem se_X3_takeSyndromes : Cond.selects RX3 yX3_takeSyndromes yX3_takeSyndromes ∈ gt := gt_0 (i := 12) rfl rfl
abbrev jX4_hold : Jt := (yX4_hold, cX4_hold, 3, none)
theorem mk_X4_hold : Mk jX4_hold 2 := ⟨gt_2 (i := 219) rfl rfl, gt_1 (i := 6) rfl rfl, by decide +kernel, by decide +kernel, by decide +kernel, by decide +kernel⟩
theorem in_X4_hold : Cond.instanceMethod yX4_hold ∈ gt := gt_2 (i := 217) rfl rfl
theorem se_X4_hold : Cond.selects RX4 yX4_hold yX4_hold ∈ gt := gt_2 (i := 218) rfl rfl
abbrev jX4_init : Jt := (yX4_init, cX4_init, 1, none)
theorem mk_X4_init : Mk jX4_init 0 := ⟨gt_1 (i := 159) rfl rfl, gt_1 (i := 6) rfl rfl, by decide +kernel, by decide +kernel, by decide +kernel, by decide +kernel⟩
theorem in_X4_init : Cond.instanceMethod yX4_init ∈ gt := gt_1 (i := 158) rfl rfl
abbrev jX4_program : Jt := (yX4_program, cX4_program, 3, (some .int))
theorem mk_X4_program : Mk jX4_program 1 := ⟨gt_2 (i := 178) rfl rfl, gt_1 (i := 6) rfl rfl, by decide +kernel, by decide +kernel, by decide +kernel, by decide +kernel⟩
theorem in_X4_program : Cond.instanceMethod yX4_program ∈ gt := gt_2 (i := 176) rfl rfl
theorem se_X4_program : Cond.selects RX4 yX4_program yX4_program ∈ gt := gt_2 (i := 177) rfl rfl
abbrev jX4_renew : Jt := (yX4_renew, cX4_renew, 2, none)
theorem mk_X4_renew : Mk jX4_renew 1 := ⟨gt_2 (i := 69) rfl rfl, gt_1 (i := 6) rfl rfl, by decide +kernel, by decide +kernel, by decide +kernel, by decide +kernel⟩
theorem in_X4_renew : Cond.instanceMethod yX4_renew ∈ gt := gt_2 (i := 67) rfl rfl
theorem se_X4_renew : Cond.selects RX4 yX4_renew yX4_renew ∈ gt := gt_2 (i := 68) rfl rfl
abbrev jX4_turn : Jt := (yX4_turn, cX4_turn, 2, (some .int))
theorem mk_X4_turn : Mk jX4_turn 1 := ⟨gt_2 (i := 209) rfl rfl, gt_1 (i := 6) rfl rfl, by decide +kernel, by decide +kernel, by decide +kernel, by decide +kernel⟩
theorem in_X4_turn : Cond.instanceMethod yX4_turn ∈ gt := gt_2 (i := 207) rfl rfl
theorem se_X4_turn : Cond.selects RX4 yX4_turn yX4_turn ∈ gt := gt_2 (i := 208) rfl rfl
abbrev jX4_wipe : Jt := (yX4_wipe, cX4_wipe, 3, none)
theorem mk_X4_wipe : Mk jX4_wipe 1 := ⟨gt_2 (i := 196) rfl rfl, gt_1 (i := 6) rfl rfl, by decide +kernel, by decide +kernel, by decide +kernel, by decide +kernel⟩
theorem in_X4_wipe : Cond.instanceMethod yX4_wipe ∈ gt := gt_2 (i := 194) rfl rfl
theorem se_X4_wipe : Cond.selects RX4 yX4_wipe yX4_wipe ∈ gt := gt_2 (i := 195) rfl rfl
abbrev jX5_apart : Jt := (yX5_apart, cX5_apart, 4, (some .int))
theorem mk_X5_apart : Mk jX5_apart 1 := ⟨gt_2 (i := 182) rfl rfl, gt_1 (i := 4) rfl rfl, by decide +kernel, by decide +kernel, by decide +kernel, by decide +kernel⟩
theorem in_X5_apart : Cond.instanceMethod yX5_apart ∈ gt := gt_2 (i := 180) rfl rfl
theorem se_X5_apart : Cond.selects RX5 yX5_apart yX5_apart ∈ gt := gt_2 (i := 181) rfl rfl
abbrev jX5_at : Jt := (yX5_at, cX5_at, 2, (some .int))
theorem mk_X5_at : Mk jX5_at 1 := ⟨gt_2 (i := 166) rfl rfl, gt_1 (i := 4) rfl rfl, by decide +kernel, by decide +kernel, by decide +kernel, by decide +kernel⟩
theorem in_X5_at : Cond.instanceMethod yX5_at ∈ gt := gt_2 (i := 164) rfl rfl
theorem se_X5_at : Cond.selects RX5 yX5_at yX5_at ∈ gt := gt_2 (i := 165) rfl rfl
abbrev jX5_become : Jt := (yX5_become, cX5_become, 2, none)
theorem mk_X5_become : Mk jX5_become 1 := ⟨gt_2 (i := 74) rfl rfl, gt_1 (i := 4) rfl rfl, by decide +kernel, by decide +kernel, by decide +kernel, by decide +kernel⟩
theorem in_X5_become : Cond.instanceMethod yX5_become ∈ gt := gt_2 (i := 72) rfl rfl
theorem se_X5_become : Cond.selects RX5 yX5_become yX5_become ∈ gt := gt_2 (i := 73) rfl rfl
abbrev jX5_becomeDifference : Jt := (yX5_becomeDifference, cX5_becomeDifference, 4, none)
theorem mk_X5_becomeDifference : Mk jX5_becomeDifference 2 := ⟨gt_3 (i := 62) rfl rfl, gt_1 (i := 4) rfl rfl, by decide +kernel, by decide +kernel, by decide +kernel, by decide +kernel⟩
theorem in_X5_becomeDifference : Cond.instanceMethod yX5_becomeDifference ∈ gt := gt_3 (i := 60) rfl rfl
theorem se_X5_becomeDifference : Cond.selects RX5 yX5_becomeDifference yX5_becomeDifference ∈ gt := gt_3 (i := 61) rfl rfl
abbrev jX5_becomeFirstOnes : Jt := (yX5_becomeFirstOnes, cX5_becomeFirstOnes, 3, none)
theorem mk_X5_becomeFirstOnes : Mk jX5_becomeFirstOnes 1 := ⟨gt_2 (i := 45) rfl rfl, gt_1 (i := 4) rfl rfl, by decide +kernel, by decide +kernel, by decide +kernel, by decide +kernel⟩
theorem in_X5_becomeFirstOnes : Cond.instanceMethod yX5_becomeFirstOnes ∈ gt := gt_2 (i := 43) rfl rfl
theorem se_X5_becomeFirstOnes : Cond.selects RX5 yX5_becomeFirstOnes yX5_becomeFirstOnes ∈ gt := gt_2 (i := 44) rfl rfl
abbrev jX5_byteAt : Jt := (yX5_byteAt, cX5_byteAt, 2, (some .int))
theorem mk_X5_byteAt : Mk jX5_byteAt 1 := ⟨gt_2 (i := 130) rfl rfl, gt_1 (i := 4) rfl rfl, by decide +kernel, by decide +kernel, by decide +kernel, by decide +kernel⟩
theorem in_X5_byteAt : Cond.instanceMethod yX5_byteAt ∈ gt := gt_2 (i := 128) rfl rfl
theorem se_X5_byteAt : Cond.selects RX5 yX5_byteAt yX5_byteAt ∈ gt := gt_2 (i := 129) rfl rfl
abbrev jX5_clear : Jt := (yX5_clear, cX5_clear, 1, none)
theorem mk_X5_clear : Mk jX5_clear 0 := ⟨gt_2 (i := 49) rfl rfl, gt_1 (i := 4) rfl rfl, by decide +kernel, by decide +kernel, by decide +kernel, by decide +kernel⟩
theorem in_X5_clear : Cond.instanceMethod yX5_clear ∈ gt := gt_2 (i := 47) rfl rfl
theorem se_X5_clear : Cond.selects RX5 yX5_clear yX5_clear ∈ gt := gt_2 (i := 48) rfl rfl
abbrev jX5_init : Jt := (yX5_init, cX5_init, 1, none)
theorem mk_X5_init : Mk jX5_init 0 := ⟨gt_1 (i := 63) rfl rfl, gt_1 (i := 4) rfl rfl, by decide +kernel, by decide +kernel, by decide +kernel, by decide +kernel⟩
theorem in_X5_init : Cond.instanceMethod yX5_init ∈ gt := gt_1 (i := 62) rfl rfl
abbrev jX5_ones : Jt := (yX5_ones, cX5_ones, 3, (some .int))
theorem mk_X5_ones : Mk jX5_ones 0 := ⟨gt_2 (i := 223) rfl rfl, gt_1 (i := 4) rfl rfl, by decide +kernel, by decide +kernel, by decide +kernel, by decide +kernel⟩
theorem in_X5_ones : Cond.instanceMethod yX5_ones ∈ gt := gt_2 (i := 221) rfl rfl
theorem se_X5_ones : Cond.selects RX5 yX5_ones yX5_ones ∈ gt := gt_2 (i := 222) rfl rfl
abbrev jX5_set : Jt := (yX5_set, cX5_set, 5, none)
theorem mk_X5_set : Mk jX5_set 2 := ⟨gt_2 (i := 56) rfl rfl, gt_1 (i := 4) rfl rfl, by decide +kernel, by decide +kernel, by decide +kernel, by decide +kernel⟩
theorem in_X5_set : Cond.instanceMethod yX5_set ∈ gt := gt_2 (i := 54) rfl rfl
theorem se_X5_set : Cond.selects RX5 yX5_set yX5_set ∈ gt := gt_2 (i := 55) rfl rfl
abbrev jX5_setByte : Jt := (yX5_setByte, cX5_setByte, 4, none)
theorem mk_X5_setByte : Mk jX5_setByte 2 := ⟨gt_2 (i := 134) rfl rfl, gt_1 (i := 4) rfl rfl, by decide +kernel, by decide +kernel, by decide +kernel, by decide +kernel⟩
theorem in_X5_setByte : Cond.instanceMethod yX5_setByte ∈ gt := gt_2 (i := 132) rfl rfl
theorem se_X5_setByte : Cond.selects RX5 yX5_setByte yX5_setByte ∈ gt := gt_2 (i := 133) rfl rfl
abbrev jX6_about : Jt := (yX6_about, cX6_about, 2, (some .int))
theorem mk_X6_about : Mk jX6_about 1 := ⟨gt_3 (i := 93) rfl rfl, gt_1 (i := 1) rfl rfl, by decide +kernel, by decide +kernel, by decide +kernel, by decide +kernel⟩
theorem in_X6_about : Cond.instanceMethod yX6_about ∈ gt := gt_3 (i := 91) rfl rfl
theorem se_X6_about : Cond.selects RX6 yX6_about yX6_about ∈ gt := gt_3 (i := 92) rfl rfl
abbrev jX6_bit : Jt := (yX6_bit, cX6_bit, 3, (some .int))
theorem mk_X6_bit : Mk jX6_bit 2 := ⟨gt_2 (i := 232) rfl rfl, gt_1 (i := 1) rfl rfl, by decide +kernel, by decide +kernel, by decide +kernel, by decide +kernel⟩
theorem in_X6_bit : Cond.instanceMethod yX6_bit ∈ gt := gt_2 (i := 230) rfl rfl
theorem se_X6_bit : Cond.selects RX6 yX6_bit yX6_bit ∈ gt := gt_2 (i := 231) rfl rfl
abbrev jX6_copy : Jt := (yX6_copy, cX6_copy, 3, (some .int))
theorem mk_X6_copy : Mk jX6_copy 2 := ⟨gt_3 (i := 76) rfl rfl, gt_1 (i := 1) rfl rfl, by decide +kernel, by decide +kernel, by decide +kernel, by decide +kernel⟩
theorem in_X6_copy : Cond.instanceMethod yX6_copy ∈ gt := gt_3 (i := 74) rfl rfl
theorem se_X6_copy : Cond.selects RX6 yX6_copy yX6_copy ∈ gt := gt_3 (i := 75) rfl rfl
abbrev jX6_erase : Jt := (yX6_erase, cX6_erase, 2, (some .int))
theorem mk_X6_erase : Mk jX6_erase 1 := ⟨gt_2 (i := 192) rfl rfl, gt_1 (i := 1) rfl rfl, by decide +kernel, by decide +kernel, by decide +kernel, by decide +kernel⟩
theorem in_X6_erase : Cond.instanceMethod yX6_erase ∈ gt := gt_2 (i := 190) rfl rfl
theorem se_X6_erase : Cond.selects RX6 yX6_erase yX6_erase ∈ gt := gt_2 (i := 191) rfl rfl
abbrev jX6_fill : Jt := (yX6_fill, cX6_fill, 6, (some .int))
theorem mk_X6_fill : Mk jX6_fill 2 := ⟨gt_2 (i := 139) rfl rfl, gt_1 (i := 1) rfl rfl, by decide +kernel, by decide +kernel, by decide +kernel, by decide +kernel⟩
theorem in_X6_fill : Cond.instanceMethod yX6_fill ∈ gt := gt_2 (i := 137) rfl rfl
theorem se_X6_fill : Cond.selects RX6 yX6_fill yX6_fill ∈ gt := gt_2 (i := 138) rfl rfl
abbrev jX6_flip : Jt := (yX6_flip, cX6_flip, 3, (some .int))
theorem mk_X6_flip : Mk jX6_flip 2 := ⟨gt_2 (i := 201) rfl rfl, gt_1 (i := 1) rfl rfl, by decide +kernel, by decide +kernel, by decide +kernel, by decide +kernel⟩
theorem in_X6_flip : Cond.instanceMethod yX6_flip ∈ gt := gt_2 (i := 199) rfl rfl
theorem se_X6_flip : Cond.selects RX6 yX6_flip yX6_flip ∈ gt := gt_2 (i := 200) rfl rfl
abbrev jX6_generator : Jt := (yX6_generator, cX6_generator, 2, (some .int))
theorem mk_X6_generator : Mk jX6_generator 1 := ⟨gt_2 (i := 118) rfl rfl, gt_1 (i := 1) rfl rfl, by decide +kernel, by decide +kernel, by decide +kernel, by decide +kernel⟩
theorem in_X6_generator : Cond.instanceMethod yX6_generator ∈ gt := gt_2 (i := 116) rfl rfl
theorem se_X6_generator : Cond.selects RX6 yX6_generator yX6_generator ∈ gt := gt_2 (i := 117) rfl rfl
abbrev jX6_get : Jt := (yX6_get, cX6_get, 2, (some .int))
theorem mk_X6_get : Mk jX6_get 1 := ⟨gt_2 (i := 144) rfl rfl, gt_1 (i := 1) rfl rfl, by decide +kernel, by decide +kernel, by decide +kernel, by decide +kernel⟩
theorem in_X6_get : Cond.instanceMethod yX6_get ∈ gt := gt_2 (i := 142) rfl rfl
theorem se_X6_get : Cond.selects RX6 yX6_get yX6_get ∈ gt := gt_2 (i := 143) rfl rfl
abbrev jX6_hasBit : Jt := (yX6_hasBit, cX6_hasBit, 2, (some .boolean))
theorem mk_X6_hasBit : Mk jX6_hasBit 1 := ⟨gt_2 (i := 205) rfl rfl, gt_1 (i := 1) rfl rfl, by decide +kernel, by decide +kernel, by decide +kernel, by decide +kernel⟩
theorem in_X6_hasBit : Cond.instanceMethod yX6_hasBit ∈ gt := gt_2 (i := 204) rfl rfl
theorem se_X6_hasBit : Cond.selects RX6 yX6_hasBit yX6_hasBit ∈ gt := gt_0 (i := 9) rfl rfl
abbrev jX6_hasByte : Jt := (yX6_hasByte, cX6_hasByte, 2, (some .boolean))
theorem mk_X6_hasByte : Mk jX6_hasByte 1 := ⟨gt_2 (i := 126) rfl rfl, gt_1 (i := 1) rfl rfl, by decide +kernel, by decide +kernel, by decide +kernel, by decide +kernel⟩
theorem in_X6_hasByte : Cond.instanceMethod yX6_hasByte ∈ gt := gt_2 (i := 125) rfl rfl
theorem se_X6_hasByte : Cond.selects RX6 yX6_hasByte yX6_hasByte ∈ gt := gt_0 (i := 5) rfl rfl
abbrev jX6_hasPage : Jt := (yX6_hasPage, cX6_hasPage, 2, (some .boolean))
theorem mk_X6_hasPage : Mk jX6_hasPage 1 := ⟨gt_2 (i := 174) rfl rfl, gt_1 (i := 1) rfl rfl, by decide +kernel, by decide +kernel, by decide +kernel, by decide +kernel⟩
theorem in_X6_hasPage : Cond.instanceMethod yX6_hasPage ∈ gt := gt_2 (i := 173) rfl rfl
theorem se_X6_hasPage : Cond.selects RX6 yX6_hasPage yX6_hasPage ∈ gt := gt_0 (i := 8) rfl rfl
abbrev jX6_init : Jt := (yX6_init, cX6_init, 2, none)
theorem mk_X6_init : Mk jX6_init 0 := ⟨gt_1 (i := 17) rfl rfl, gt_1 (i := 1) rfl rfl, by decide +kernel, by decide +kernel, by decide +kernel, by decide +kernel⟩
theorem in_X6_init : Cond.instanceMethod yX6_init ∈ gt := gt_1 (i := 16) rfl rfl
abbrev jX6_inverse : Jt := (yX6_inverse, cX6_inverse, 2, (some .int))
theorem mk_X6_inverse : Mk jX6_inverse 1 := ⟨gt_2 (i := 91) rfl rfl, gt_1 (i := 1) rfl rfl, by decide +kernel, by decide +kernel, by decide +kernel, by decide +kernel⟩
theorem in_X6_inverse : Cond.instanceMethod yX6_inverse ∈ gt := gt_2 (i := 89) rfl rfl
theorem se_X6_inverse : Cond.selects RX6 yX6_inverse yX6_inverse ∈ gt := gt_2 (i := 90) rfl rfl
abbrev jX6_log : Jt := (yX6_log, cX6_log, 2, (some .int))
theorem mk_X6_log : Mk jX6_log 1 := ⟨gt_2 (i := 109) rfl rfl, gt_1 (i := 1) rfl rfl, by decide +kernel, by decide +kernel, by decide +kernel, by decide +kernel⟩
theorem in_X6_log : Cond.instanceMethod yX6_log ∈ gt := gt_2 (i := 107) rfl rfl
theorem se_X6_log : Cond.selects RX6 yX6_log yX6_log ∈ gt := gt_2 (i := 108) rfl rfl
abbrev jX6_mark : Jt := (yX6_mark, cX6_mark, 4, (some .int))
theorem mk_X6_mark : Mk jX6_mark 3 := ⟨gt_2 (i := 227) rfl rfl, gt_1 (i := 1) rfl rfl, by decide +kernel, by decide +kernel, by decide +kernel, by decide +kernel⟩
theorem in_X6_mark : Cond.instanceMethod yX6_mark ∈ gt := gt_2 (i := 225) rfl rfl
theorem se_X6_mark : Cond.selects RX6 yX6_mark yX6_mark ∈ gt := gt_2 (i := 226) rfl rfl
abbrev jX6_minimal : Jt := (yX6_minimal, cX6_minimal, 2, (some .int))
theorem mk_X6_minimal : Mk jX6_minimal 1 := ⟨gt_2 (i := 113) rfl rfl, gt_1 (i := 1) rfl rfl, by decide +kernel, by decide +kernel, by decide +kernel, by decide +kernel⟩
theorem in_X6_minimal : Cond.instanceMethod yX6_minimal ∈ gt := gt_2 (i := 111) rfl rfl
theorem se_X6_minimal : Cond.selects RX6 yX6_minimal yX6_minimal ∈ gt := gt_2 (i := 112) rfl rfl
abbrev jX6_open : Jt := (yX6_open, cX6_open, 6, (some .int))
theorem mk_X6_open : Mk jX6_open 3 := ⟨gt_1 (i := 218) rfl rfl, gt_1 (i := 1) rfl rfl, by decide +kernel, by decide +kernel, by decide +kernel, by decide +kernel⟩
theorem in_X6_open : Cond.instanceMethod yX6_open ∈ gt := gt_1 (i := 216) rfl rfl
theorem se_X6_open : Cond.selects RX6 yX6_open yX6_open ∈ gt := gt_1 (i := 217) rfl rfl
abbrev jX6_power : Jt := (yX6_power, cX6_power, 2, (some .int))
theorem mk_X6_power : Mk jX6_power 1 := ⟨gt_2 (i := 99) rfl rfl, gt_1 (i := 1) rfl rfl, by decide +kernel, by decide +kernel, by decide +kernel, by decide +kernel⟩
theorem in_X6_power : Cond.instanceMethod yX6_power ∈ gt := gt_2 (i := 97) rfl rfl
theorem se_X6_power : Cond.selects RX6 yX6_power yX6_power ∈ gt := gt_2 (i := 98) rfl rfl
abbrev jX6_put : Jt := (yX6_put, cX6_put, 4, (some .int))
theorem mk_X6_put : Mk jX6_put 2 := ⟨gt_2 (i := 122) rfl rfl, gt_1 (i := 1) rfl rfl, by decide +kernel, by decide +kernel, by decide +kernel, by decide +kernel⟩
theorem in_X6_put : Cond.instanceMethod yX6_put ∈ gt := gt_2 (i := 120) rfl rfl
theorem se_X6_put : Cond.selects RX6 yX6_put yX6_put ∈ gt := gt_2 (i := 121) rfl rfl
abbrev jX6_read : Jt := (yX6_read, cX6_read, 3, (some .int))
theorem mk_X6_read : Mk jX6_read 1 := ⟨gt_2 (i := 236) rfl rfl, gt_1 (i := 1) rfl rfl, by decide +kernel, by decide +kernel, by decide +kernel, by decide +kernel⟩
theorem in_X6_read : Cond.instanceMethod yX6_read ∈ gt := gt_2 (i := 234) rfl rfl
theorem se_X6_read : Cond.selects RX6 yX6_read yX6_read ∈ gt := gt_2 (i := 235) rfl rfl
abbrev jX6_refresh : Jt := (yX6_refresh, cX6_refresh, 5, (some .int))
theorem mk_X6_refresh : Mk jX6_refresh 1 := ⟨gt_3 (i := 84) rfl rfl, gt_1 (i := 1) rfl rfl, by decide +kernel, by decide +kernel, by decide +kernel, by decide +kernel⟩
theorem in_X6_refresh : Cond.instanceMethod yX6_refresh ∈ gt := gt_3 (i := 82) rfl rfl
theorem se_X6_refresh : Cond.selects RX6 yX6_refresh yX6_refresh ∈ gt := gt_3 (i := 83) rfl rfl
abbrev jX6_rewrite : Jt := (yX6_rewrite, cX6_rewrite, 2, (some .int))
theorem mk_X6_rewrite : Mk jX6_rewrite 1 := ⟨gt_3 (i := 80) rfl rfl, gt_1 (i := 1) rfl rfl, by decide +kernel, by decide +kernel, by decide +kernel, by decide +kernel⟩
theorem in_X6_rewrite : Cond.instanceMethod yX6_rewrite ∈ gt := gt_3 (i := 79) rfl rfl
theorem se_X6_rewrite : Cond.selects RX6 yX6_rewrite yX6_rewrite ∈ gt := gt_0 (i := 19) rfl rfl
abbrev jX6_stick : Jt := (yX6_stick, cX6_stick, 4, (some .int))
theorem mk_X6_stick : Mk jX6_stick 3 := ⟨gt_2 (i := 215) rfl rfl, gt_1 (i := 1) rfl rfl, by decide +kernel, by decide +kernel, by decide +kernel, by decide +kernel⟩
theorem in_X6_stick : Cond.instanceMethod yX6_stick ∈ gt := gt_2 (i := 213) rfl rfl
theorem se_X6_stick : Cond.selects RX6 yX6_stick yX6_stick ∈ gt := gt_2 (i := 214) rfl rfl
abbrev jX6_syndrome : Jt := (yX6_syndrome, cX6_syndrome, 3, (some .int))
theorem mk_X6_syndrome : Mk jX6_syndrome 2 := ⟨gt_3 (i := 70) rfl rfl, gt_1 (i := 1) rfl rfl, by decide +kernel, by decide +kernel, by decide +kernel, by decide +kernel⟩
theorem in_X6_syndrome : Cond.instanceMethod yX6_syndrome ∈ gt := gt_3 (i := 68) rfl rfl
theorem se_X6_syndrome : Cond.selects RX6 yX6_syndrome yX6_syndrome ∈ gt := gt_3 (i := 69) rfl rfl
abbrev jX6_tail : Jt := (yX6_tail, cX6_tail, 2, (some .int))
theorem mk_X6_tail : Mk jX6_tail 1 := ⟨gt_2 (i := 148) rfl rfl, gt_1 (i := 1) rfl rfl, by decide +kernel, by decide +kernel, by decide +kernel, by decide +kernel⟩
theorem in_X6_tail : Cond.instanceMethod yX6_tail ∈ gt := gt_2 (i := 146) rfl rfl
theorem se_X6_tail : Cond.selects RX6 yX6_tail yX6_tail ∈ gt := gt_2 (i := 147) rfl rfl
abbrev jX6_times : Jt := (yX6_times, cX6_times, 3, (some .int))
theorem mk_X6_times : Mk jX6_times 2 := ⟨gt_2 (i := 82) rfl rfl, gt_1 (i := 1) rfl rfl, by decide +kernel, by decide +kernel, by decide +kernel, by decide +kernel⟩
theorem in_X6_times : Cond.instanceMethod yX6_times ∈ gt := gt_2 (i := 80) rfl rfl
theorem se_X6_times : Cond.selects RX6 yX6_times yX6_times ∈ gt := gt_2 (i := 81) rfl rfl
abbrev jX6_told : Jt := (yX6_told, cX6_told, 4, (some .int))
theorem mk_X6_told : Mk jX6_told 2 := ⟨gt_3 (i := 88) rfl rfl, gt_1 (i := 1) rfl rfl, by decide +kernel, by decide +kernel, by decide +kernel, by decide +kernel⟩
theorem in_X6_told : Cond.instanceMethod yX6_told ∈ gt := gt_3 (i := 86) rfl rfl
theorem se_X6_told : Cond.selects RX6 yX6_told yX6_told ∈ gt := gt_3 (i := 87) rfl rfl
abbrev jX6_turned : Jt := (yX6_turned, cX6_turned, 4, (some .int))
theorem mk_X6_turned : Mk jX6_turned 1 := ⟨gt_3 (i := 66) rfl rfl, gt_1 (i := 1) rfl rfl, by decide +kernel, by decide +kernel, by decide +kernel, by decide +kernel⟩
theorem in_X6_turned : Cond.instanceMethod yX6_turned ∈ gt := gt_3 (i := 64) rfl rfl
theorem se_X6_turned : Cond.selects RX6 yX6_turned yX6_turned ∈ gt := gt_3 (i := 65) rfl rfl
abbrev jX6_write : Jt := (yX6_write, cX6_write, 2, (some .int))
theorem mk_X6_write : Mk jX6_write 1 := ⟨gt_2 (i := 170) rfl rfl, gt_1 (i := 1) rfl rfl, by decide +kernel, by decide +kernel, by decide +kernel, by decide +kernel⟩
theorem in_X6_write : Cond.instanceMethod yX6_write ∈ gt := gt_2 (i := 168) rfl rfl
theorem se_X6_write : Cond.selects RX6 yX6_write yX6_write ∈ gt := gt_2 (i := 169) rfl rfl
abbrev jX7_about : Jt := (yX7_about, cX7_about, 2, (some .int))
theorem mk_X7_about : Mk jX7_about 1 := ⟨gt_4 (i := 134) rfl rfl, gt_1 (i := 7) rfl rfl, by decide +kernel, by decide +kernel, by decide +kernel, by decide +kernel⟩
theorem in_X7_about : Cond.instanceMethod yX7_about ∈ gt := gt_4 (i := 132) rfl rfl
theorem se_X7_about : Cond.selects RX7 yX7_about yX7_about ∈ gt := gt_4 (i := 133) rfl rfl
abbrev jX7_bit : Jt := (yX7_bit, cX7_bit, 3, (some .int))
theorem mk_X7_bit : Mk jX7_bit 2 := ⟨gt_4 (i := 86) rfl rfl, gt_1 (i := 7) rfl rfl, by decide +kernel, by decide +kernel, by decide +kernel, by decide +kernel⟩
theorem in_X7_bit : Cond.instanceMethod yX7_bit ∈ gt := gt_4 (i := 84) rfl rfl
theorem se_X7_bit : Cond.selects RX7 yX7_bit yX7_bit ∈ gt := gt_4 (i := 85) rfl rfl
abbrev jX7_by : Jt := (yX7_by, cX7_by, 3, (some .int))
theorem mk_X7_by : Mk jX7_by 2 := ⟨gt_3 (i := 220) rfl rfl, gt_1 (i := 7) rfl rfl, by decide +kernel, by decide +kernel, by decide +kernel, by decide +kernel⟩
theorem in_X7_by : Cond.instanceMethod yX7_by ∈ gt := gt_3 (i := 219) rfl rfl
theorem se_X7_by : Cond.selects RX7 yX7_by yX7_by ∈ gt := gt_0 (i := 25) rfl rfl
abbrev jX7_complete : Jt := (yX7_complete, cX7_complete, 4, none)
theorem mk_X7_complete : Mk jX7_complete 0 := ⟨gt_4 (i := 35) rfl rfl, gt_1 (i := 7) rfl rfl, by decide +kernel, by decide +kernel, by decide +kernel, by decide +kernel⟩
theorem in_X7_complete : Cond.instanceMethod yX7_complete ∈ gt := gt_4 (i := 34) rfl rfl
theorem se_X7_complete : Cond.selects RX7 yX7_complete yX7_complete ∈ gt := gt_0 (i := 28) rfl rfl
abbrev jX7_copy : Jt := (yX7_copy, cX7_copy, 3, (some .int))
theorem mk_X7_copy : Mk jX7_copy 2 := ⟨gt_4 (i := 118) rfl rfl, gt_1 (i := 7) rfl rfl, by decide +kernel, by decide +kernel, by decide +kernel, by decide +kernel⟩
theorem in_X7_copy : Cond.instanceMethod yX7_copy ∈ gt := gt_4 (i := 116) rfl rfl
theorem se_X7_copy : Cond.selects RX7 yX7_copy yX7_copy ∈ gt := gt_4 (i := 117) rfl rfl
abbrev jX7_countMarks : Jt := (yX7_countMarks, cX7_countMarks, 4, (some .int))
theorem mk_X7_countMarks : Mk jX7_countMarks 1 := ⟨gt_4 (i := 82) rfl rfl, gt_1 (i := 7) rfl rfl, by decide +kernel, by decide +kernel, by decide +kernel, by decide +kernel⟩
theorem in_X7_countMarks : Cond.instanceMethod yX7_countMarks ∈ gt := gt_4 (i := 81) rfl rfl
theorem se_X7_countMarks : Cond.selects RX7 yX7_countMarks yX7_countMarks ∈ gt := gt_0 (i := 34) rfl rfl
abbrev jX7_countStuck : Jt := (yX7_countStuck, cX7_countStuck, 4, (some .int))
theorem mk_X7_countStuck : Mk jX7_countStuck 1 := ⟨gt_4 (i := 74) rfl rfl, gt_1 (i := 7) rfl rfl, by decide +kernel, by decide +kernel, by decide +kernel, by decide +kernel⟩
theorem in_X7_countStuck : Cond.instanceMethod yX7_countStuck ∈ gt := gt_4 (i := 73) rfl rfl
theorem se_X7_countStuck : Cond.selects RX7 yX7_countStuck yX7_countStuck ∈ gt := gt_0 (i := 33) rfl rfl
abbrev jX7_countZeros : Jt := (yX7_countZeros, cX7_countZeros, 4, (some .int))
theorem mk_X7_countZeros : Mk jX7_countZeros 1 := ⟨gt_4 (i := 130) rfl rfl, gt_1 (i := 7) rfl rfl, by decide +kernel, by decide +kernel, by decide +kernel, by decide +kernel⟩
theorem in_X7_countZeros : Cond.instanceMethod yX7_countZeros ∈ gt := gt_4 (i := 129) rfl rfl
theorem se_X7_countZeros : Cond.selects RX7 yX7_countZeros yX7_countZeros ∈ gt := gt_0 (i := 39) rfl rfl
abbrev jX7_erase : Jt := (yX7_erase, cX7_erase, 2, (some .int))
theorem mk_X7_erase : Mk jX7_erase 1 := ⟨gt_4 (i := 54) rfl rfl, gt_1 (i := 7) rfl rfl, by decide +kernel, by decide +kernel, by decide +kernel, by decide +kernel⟩
theorem in_X7_erase : Cond.instanceMethod yX7_erase ∈ gt := gt_4 (i := 52) rfl rfl
theorem se_X7_erase : Cond.selects RX7 yX7_erase yX7_erase ∈ gt := gt_4 (i := 53) rfl rfl
abbrev jX7_exponent : Jt := (yX7_exponent, cX7_exponent, 3, (some .int))
theorem mk_X7_exponent : Mk jX7_exponent 1 := ⟨gt_3 (i := 212) rfl rfl, gt_1 (i := 7) rfl rfl, by decide +kernel, by decide +kernel, by decide +kernel, by decide +kernel⟩
theorem in_X7_exponent : Cond.instanceMethod yX7_exponent ∈ gt := gt_3 (i := 211) rfl rfl
theorem se_X7_exponent : Cond.selects RX7 yX7_exponent yX7_exponent ∈ gt := gt_0 (i := 23) rfl rfl
abbrev jX7_fill : Jt := (yX7_fill, cX7_fill, 6, (some .int))
theorem mk_X7_fill : Mk jX7_fill 2 := ⟨gt_4 (i := 22) rfl rfl, gt_1 (i := 7) rfl rfl, by decide +kernel, by decide +kernel, by decide +kernel, by decide +kernel⟩
theorem in_X7_fill : Cond.instanceMethod yX7_fill ∈ gt := gt_4 (i := 20) rfl rfl
theorem se_X7_fill : Cond.selects RX7 yX7_fill yX7_fill ∈ gt := gt_4 (i := 21) rfl rfl
abbrev jX7_flip : Jt := (yX7_flip, cX7_flip, 4, (some .int))
theorem mk_X7_flip : Mk jX7_flip 2 := ⟨gt_4 (i := 62) rfl rfl, gt_1 (i := 7) rfl rfl, by decide +kernel, by decide +kernel, by decide +kernel, by decide +kernel⟩
theorem in_X7_flip : Cond.instanceMethod yX7_flip ∈ gt := gt_4 (i := 60) rfl rfl
theorem se_X7_flip : Cond.selects RX7 yX7_flip yX7_flip ∈ gt := gt_4 (i := 61) rfl rfl
abbrev jX7_generator : Jt := (yX7_generator, cX7_generator, 2, (some .int))
theorem mk_X7_generator : Mk jX7_generator 1 := ⟨gt_4 (i := 14) rfl rfl, gt_1 (i := 7) rfl rfl, by decide +kernel, by decide +kernel, by decide +kernel, by decide +kernel⟩
theorem in_X7_generator : Cond.instanceMethod yX7_generator ∈ gt := gt_4 (i := 12) rfl rfl
theorem se_X7_generator : Cond.selects RX7 yX7_generator yX7_generator ∈ gt := gt_4 (i := 13) rfl rfl
abbrev jX7_generatorAt : Jt := (yX7_generatorAt, cX7_generatorAt, 5, (some .int))
theorem mk_X7_generatorAt : Mk jX7_generatorAt 2 := ⟨gt_3 (i := 208) rfl rfl, gt_1 (i := 7) rfl rfl, by decide +kernel, by decide +kernel, by decide +kernel, by decide +kernel⟩
theorem in_X7_generatorAt : Cond.instanceMethod yX7_generatorAt ∈ gt := gt_3 (i := 207) rfl rfl
theorem se_X7_generatorAt : Cond.selects RX7 yX7_generatorAt yX7_generatorAt ∈ gt := gt_0 (i := 22) rfl rfl
abbrev jX7_get : Jt := (yX7_get, cX7_get, 2, (some .int))
theorem mk_X7_get : Mk jX7_get 1 := ⟨gt_4 (i := 27) rfl rfl, gt_1 (i := 7) rfl rfl, by decide +kernel, by decide +kernel, by decide +kernel, by decide +kernel⟩
theorem in_X7_get : Cond.instanceMethod yX7_get ∈ gt := gt_4 (i := 25) rfl rfl
theorem se_X7_get : Cond.selects RX7 yX7_get yX7_get ∈ gt := gt_4 (i := 26) rfl rfl
abbrev jX7_init : Jt := (yX7_init, cX7_init, 1, none)
theorem mk_X7_init : Mk jX7_init 0 := ⟨gt_3 (i := 98) rfl rfl, gt_1 (i := 7) rfl rfl, by decide +kernel, by decide +kernel, by decide +kernel, by decide +kernel⟩
theorem in_X7_init : Cond.instanceMethod yX7_init ∈ gt := gt_3 (i := 97) rfl rfl
abbrev jX7_inverse : Jt := (yX7_inverse, cX7_inverse, 2, (some .int))
theorem mk_X7_inverse : Mk jX7_inverse 1 := ⟨gt_3 (i := 232) rfl rfl, gt_1 (i := 7) rfl rfl, by decide +kernel, by decide +kernel, by decide +kernel, by decide +kernel⟩
theorem in_X7_inverse : Cond.instanceMethod yX7_inverse ∈ gt := gt_3 (i := 230) rfl rfl
theorem se_X7_inverse : Cond.selects RX7 yX7_inverse yX7_inverse ∈ gt := gt_3 (i := 231) rfl rfl
abbrev jX7_isBit : Jt := (yX7_isBit, cX7_isBit, 3, (some .boolean))
theorem mk_X7_isBit : Mk jX7_isBit 2 := ⟨gt_4 (i := 66) rfl rfl, gt_1 (i := 7) rfl rfl, by decide +kernel, by decide +kernel, by decide +kernel, by decide +kernel⟩
theorem in_X7_isBit : Cond.instanceMethod yX7_isBit ∈ gt := gt_4 (i := 65) rfl rfl
theorem se_X7_isBit : Cond.selects RX7 yX7_isBit yX7_isBit ∈ gt := gt_0 (i := 32) rfl rfl
abbrev jX7_isMended : Jt := (yX7_isMended, cX7_isMended, 6, (some .boolean))
theorem mk_X7_isMended : Mk jX7_isMended 0 := ⟨gt_4 (i := 98) rfl rfl, gt_1 (i := 7) rfl rfl, by decide +kernel, by decide +kernel, by decide +kernel, by decide +kernel⟩
theorem in_X7_isMended : Cond.instanceMethod yX7_isMended ∈ gt := gt_4 (i := 97) rfl rfl
theorem se_X7_isMended : Cond.selects RX7 yX7_isMended yX7_isMended ∈ gt := gt_0 (i := 36) rfl rfl
abbrev jX7_isNumber : Jt := (yX7_isNumber, cX7_isNumber, 2, (some .boolean))
theorem mk_X7_isNumber : Mk jX7_isNumber 1 := ⟨gt_3 (i := 228) rfl rfl, gt_1 (i := 7) rfl rfl, by decide +kernel, by decide +kernel, by decide +kernel, by decide +kernel⟩
theorem in_X7_isNumber : Cond.instanceMethod yX7_isNumber ∈ gt := gt_3 (i := 227) rfl rfl
theorem se_X7_isNumber : Cond.selects RX7 yX7_isNumber yX7_isNumber ∈ gt := gt_0 (i := 26) rfl rfl
abbrev jX7_isPage : Jt := (yX7_isPage, cX7_isPage, 1, (some .boolean))
theorem mk_X7_isPage : Mk jX7_isPage 1 := ⟨gt_4 (i := 42) rfl rfl, gt_1 (i := 7) rfl rfl, by decide +kernel, by decide +kernel, by decide +kernel, by decide +kernel⟩
theorem st_X7_isPage : Cond.static yX7_isPage ∈ gt := gt_4 (i := 41) rfl rfl
abbrev jX7_isRight : Jt := (yX7_isRight, cX7_isRight, 5, (some .boolean))
theorem mk_X7_isRight : Mk jX7_isRight 0 := ⟨gt_4 (i := 102) rfl rfl, gt_1 (i := 7) rfl rfl, by decide +kernel, by decide +kernel, by decide +kernel, by decide +kernel⟩
theorem in_X7_isRight : Cond.instanceMethod yX7_isRight ∈ gt := gt_4 (i := 101) rfl rfl
theorem se_X7_isRight : Cond.selects RX7 yX7_isRight yX7_isRight ∈ gt := gt_0 (i := 37) rfl rfl
abbrev jX7_log : Jt := (yX7_log, cX7_log, 2, (some .int))
theorem mk_X7_log : Mk jX7_log 1 := ⟨gt_4 (i := 6) rfl rfl, gt_1 (i := 7) rfl rfl, by decide +kernel, by decide +kernel, by decide +kernel, by decide +kernel⟩
theorem in_X7_log : Cond.instanceMethod yX7_log ∈ gt := gt_4 (i := 4) rfl rfl
theorem se_X7_log : Cond.selects RX7 yX7_log yX7_log ∈ gt := gt_4 (i := 5) rfl rfl
abbrev jX7_makeField : Jt := (yX7_makeField, cX7_makeField, 4, none)
theorem mk_X7_makeField : Mk jX7_makeField 1 := ⟨gt_3 (i := 194) rfl rfl, gt_1 (i := 7) rfl rfl, by decide +kernel, by decide +kernel, by decide +kernel, by decide +kernel⟩
theorem in_X7_makeField : Cond.instanceMethod yX7_makeField ∈ gt := gt_3 (i := 193) rfl rfl
theorem se_X7_makeField : Cond.selects RX7 yX7_makeField yX7_makeField ∈ gt := gt_0 (i := 20) rfl rfl
abbrev jX7_makeGenerator : Jt := (yX7_makeGenerator, cX7_makeGenerator, 8, (some .int))
theorem mk_X7_makeGenerator : Mk jX7_makeGenerator 1 := ⟨gt_3 (i := 204) rfl rfl, gt_1 (i := 7) rfl rfl, by decide +kernel, by decide +kernel, by decide +kernel, by decide +kernel⟩
theorem in_X7_makeGenerator : Cond.instanceMethod yX7_makeGenerator ∈ gt := gt_3 (i := 203) rfl rfl
theorem se_X7_makeGenerator : Cond.selects RX7 yX7_makeGenerator yX7_makeGenerator ∈ gt := gt_0 (i := 21) rfl rfl
abbrev jX7_mark : Jt := (yX7_mark, cX7_mark, 4, (some .int))
theorem mk_X7_mark : Mk jX7_mark 3 := ⟨gt_4 (i := 78) rfl rfl, gt_1 (i := 7) rfl rfl, by decide +kernel, by decide +kernel, by decide +kernel, by decide +kernel⟩
theorem in_X7_mark : Cond.instanceMethod yX7_mark ∈ gt := gt_4 (i := 76) rfl rfl
theorem se_X7_mark : Cond.selects RX7 yX7_mark yX7_mark ∈ gt := gt_4 (i := 77) rfl rfl
abbrev jX7_mend : Jt := (yX7_mend, cX7_mend, 9, (some .int))
theorem mk_X7_mend : Mk jX7_mend 1 := ⟨gt_4 (i := 94) rfl rfl, gt_1 (i := 7) rfl rfl, by decide +kernel, by decide +kernel, by decide +kernel, by decide +kernel⟩
theorem in_X7_mend : Cond.instanceMethod yX7_mend ∈ gt := gt_4 (i := 93) rfl rfl
theorem se_X7_mend : Cond.selects RX7 yX7_mend yX7_mend ∈ gt := gt_0 (i := 35) rfl rfl
abbrev jX7_minimal : Jt := (yX7_minimal, cX7_minimal, 2, (some .int))
theorem mk_X7_minimal : Mk jX7_minimal 1 := ⟨gt_4 (i := 10) rfl rfl, gt_1 (i := 7) rfl rfl, by decide +kernel, by decide +kernel, by decide +kernel, by decide +kernel⟩
theorem in_X7_minimal : Cond.instanceMethod yX7_minimal ∈ gt := gt_4 (i := 8) rfl rfl
theorem se_X7_minimal : Cond.selects RX7 yX7_minimal yX7_minimal ∈ gt := gt_4 (i := 9) rfl rfl
abbrev jX7_minimalOf : Jt := (yX7_minimalOf, cX7_minimalOf, 7, (some .int))
theorem mk_X7_minimalOf : Mk jX7_minimalOf 1 := ⟨gt_3 (i := 216) rfl rfl, gt_1 (i := 7) rfl rfl, by decide +kernel, by decide +kernel, by decide +kernel, by decide +kernel⟩
theorem in_X7_minimalOf : Cond.instanceMethod yX7_minimalOf ∈ gt := gt_3 (i := 215) rfl rfl
theorem se_X7_minimalOf : Cond.selects RX7 yX7_minimalOf yX7_minimalOf ∈ gt := gt_0 (i := 24) rfl rfl
abbrev jX7_open : Jt := (yX7_open, cX7_open, 7, (some .int))
theorem mk_X7_open : Mk jX7_open 3 := ⟨gt_3 (i := 187) rfl rfl, gt_1 (i := 7) rfl rfl, by decide +kernel, by decide +kernel, by decide +kernel, by decide +kernel⟩
theorem in_X7_open : Cond.instanceMethod yX7_open ∈ gt := gt_3 (i := 185) rfl rfl
theorem se_X7_open : Cond.selects RX7 yX7_open yX7_open ∈ gt := gt_3 (i := 186) rfl rfl
abbrev jX7_over : Jt := (yX7_over, cX7_over, 2, (some .int))
theorem mk_X7_over : Mk jX7_over 1 := ⟨gt_3 (i := 236) rfl rfl, gt_1 (i := 7) rfl rfl, by decide +kernel, by decide +kernel, by decide +kernel, by decide +kernel⟩
theorem in_X7_over : Cond.instanceMethod yX7_over ∈ gt := gt_3 (i := 235) rfl rfl
theorem se_X7_over : Cond.selects RX7 yX7_over yX7_over ∈ gt := gt_0 (i := 27) rfl rfl
abbrev jX7_polynomial : Jt := (yX7_polynomial, cX7_polynomial, 1, (some .int))
theorem mk_X7_polynomial : Mk jX7_polynomial 1 := ⟨gt_3 (i := 200) rfl rfl, gt_1 (i := 7) rfl rfl, by decide +kernel, by decide +kernel, by decide +kernel, by decide +kernel⟩
theorem st_X7_polynomial : Cond.static yX7_polynomial ∈ gt := gt_3 (i := 199) rfl rfl
abbrev jX7_power : Jt := (yX7_power, cX7_power, 2, (some .int))
theorem mk_X7_power : Mk jX7_power 1 := ⟨gt_4 (i := 0) rfl rfl, gt_1 (i := 7) rfl rfl, by decide +kernel, by decide +kernel, by decide +kernel, by decide +kernel⟩
theorem in_X7_power : Cond.instanceMethod yX7_power ∈ gt := gt_3 (i := 238) rfl rfl
theorem se_X7_power : Cond.selects RX7 yX7_power yX7_power ∈ gt := gt_3 (i := 239) rfl rfl
abbrev jX7_product : Jt := (yX7_product, cX7_product, 5, (some .int))
theorem mk_X7_product : Mk jX7_product 3 := ⟨gt_3 (i := 197) rfl rfl, gt_1 (i := 7) rfl rfl, by decide +kernel, by decide +kernel, by decide +kernel, by decide +kernel⟩
theorem st_X7_product : Cond.static yX7_product ∈ gt := gt_3 (i := 196) rfl rfl
abbrev jX7_program : Jt := (yX7_program, cX7_program, 5, (some .int))
theorem mk_X7_program : Mk jX7_program 1 := ⟨gt_4 (i := 46) rfl rfl, gt_1 (i := 7) rfl rfl, by decide +kernel, by decide +kernel, by decide +kernel, by decide +kernel⟩
theorem in_X7_program : Cond.instanceMethod yX7_program ∈ gt := gt_4 (i := 45) rfl rfl
theorem se_X7_program : Cond.selects RX7 yX7_program yX7_program ∈ gt := gt_0 (i := 29) rfl rfl
abbrev jX7_put : Jt := (yX7_put, cX7_put, 4, (some .int))
theorem mk_X7_put : Mk jX7_put 2 := ⟨gt_4 (i := 18) rfl rfl, gt_1 (i := 7) rfl rfl, by decide +kernel, by decide +kernel, by decide +kernel, by decide +kernel⟩
theorem in_X7_put : Cond.instanceMethod yX7_put ∈ gt := gt_4 (i := 16) rfl rfl
theorem se_X7_put : Cond.selects RX7 yX7_put yX7_put ∈ gt := gt_4 (i := 17) rfl rfl
abbrev jX7_read : Jt := (yX7_read, cX7_read, 4, (some .int))
theorem mk_X7_read : Mk jX7_read 1 := ⟨gt_4 (i := 90) rfl rfl, gt_1 (i := 7) rfl rfl, by decide +kernel, by decide +kernel, by decide +kernel, by decide +kernel⟩
theorem in_X7_read : Cond.instanceMethod yX7_read ∈ gt := gt_4 (i := 88) rfl rfl
theorem se_X7_read : Cond.selects RX7 yX7_read yX7_read ∈ gt := gt_4 (i := 89) rfl rfl
abbrev jX7_refresh : Jt := (yX7_refresh, cX7_refresh, 6, (some .int))
theorem mk_X7_refresh : Mk jX7_refresh 1 := ⟨gt_4 (i := 122) rfl rfl, gt_1 (i := 7) rfl rfl, by decide +kernel, by decide +kernel, by decide +kernel, by decide +kernel⟩
theorem in_X7_refresh : Cond.instanceMethod yX7_refresh ∈ gt := gt_4 (i := 120) rfl rfl
theorem se_X7_refresh : Cond.selects RX7 yX7_refresh yX7_refresh ∈ gt := gt_4 (i := 121) rfl rfl
abbrev jX7_set : Jt := (yX7_set, cX7_set, 3, none)
theorem mk_X7_set : Mk jX7_set 2 := ⟨gt_4 (i := 50) rfl rfl, gt_1 (i := 7) rfl rfl, by decide +kernel, by decide +kernel, by decide +kernel, by decide +kernel⟩
theorem in_X7_set : Cond.instanceMethod yX7_set ∈ gt := gt_4 (i := 49) rfl rfl
theorem se_X7_set : Cond.selects RX7 yX7_set yX7_set ∈ gt := gt_0 (i := 30) rfl rfl
abbrev jX7_solves : Jt := (yX7_solves, cX7_solves, 8, (some .boolean))
theorem mk_X7_solves : Mk jX7_solves 1 := ⟨gt_4 (i := 106) rfl rfl, gt_1 (i := 7) rfl rfl, by decide +kernel, by decide +kernel, by decide +kernel, by decide +kernel⟩
theorem in_X7_solves : Cond.instanceMethod yX7_solves ∈ gt := gt_4 (i := 105) rfl rfl
theorem se_X7_solves : Cond.selects RX7 yX7_solves yX7_solves ∈ gt := gt_0 (i := 38) rfl rfl
abbrev jX7_stick : Jt := (yX7_stick, cX7_stick, 5, (some .int))
theorem mk_X7_stick : Mk jX7_stick 3 := ⟨gt_4 (i := 70) rfl rfl, gt_1 (i := 7) rfl rfl, by decide +kernel, by decide +kernel, by decide +kernel, by decide +kernel⟩
theorem in_X7_stick : Cond.instanceMethod yX7_stick ∈ gt := gt_4 (i := 68) rfl rfl
theorem se_X7_stick : Cond.selects RX7 yX7_stick yX7_stick ∈ gt := gt_4 (i := 69) rfl rfl
abbrev jX7_syndrome : Jt := (yX7_syndrome, cX7_syndrome, 4, (some .int))
theorem mk_X7_syndrome : Mk jX7_syndrome 2 := ⟨gt_4 (i := 114) rfl rfl, gt_1 (i := 7) rfl rfl, by decide +kernel, by decide +kernel, by decide +kernel, by decide +kernel⟩
theorem in_X7_syndrome : Cond.instanceMethod yX7_syndrome ∈ gt := gt_4 (i := 112) rfl rfl
theorem se_X7_syndrome : Cond.selects RX7 yX7_syndrome yX7_syndrome ∈ gt := gt_4 (i := 113) rfl rfl
abbrev jX7_tail : Jt := (yX7_tail, cX7_tail, 2, (some .int))
theorem mk_X7_tail : Mk jX7_tail 1 := ⟨gt_4 (i := 31) rfl rfl, gt_1 (i := 7) rfl rfl, by decide +kernel, by decide +kernel, by decide +kernel, by decide +kernel⟩
theorem in_X7_tail : Cond.instanceMethod yX7_tail ∈ gt := gt_4 (i := 29) rfl rfl
theorem se_X7_tail : Cond.selects RX7 yX7_tail yX7_tail ∈ gt := gt_4 (i := 30) rfl rfl
abbrev jX7_times : Jt := (yX7_times, cX7_times, 3, (some .int))
theorem mk_X7_times : Mk jX7_times 2 := ⟨gt_3 (i := 224) rfl rfl, gt_1 (i := 7) rfl rfl, by decide +kernel, by decide +kernel, by decide +kernel, by decide +kernel⟩
theorem in_X7_times : Cond.instanceMethod yX7_times ∈ gt := gt_3 (i := 222) rfl rfl
theorem se_X7_times : Cond.selects RX7 yX7_times yX7_times ∈ gt := gt_3 (i := 223) rfl rfl
abbrev jX7_told : Jt := (yX7_told, cX7_told, 6, (some .int))
theorem mk_X7_told : Mk jX7_told 2 := ⟨gt_4 (i := 126) rfl rfl, gt_1 (i := 7) rfl rfl, by decide +kernel, by decide +kernel, by decide +kernel, by decide +kernel⟩
theorem in_X7_told : Cond.instanceMethod yX7_told ∈ gt := gt_4 (i := 124) rfl rfl
theorem se_X7_told : Cond.selects RX7 yX7_told yX7_told ∈ gt := gt_4 (i := 125) rfl rfl
abbrev jX7_turned : Jt := (yX7_turned, cX7_turned, 2, (some .int))
theorem mk_X7_turned : Mk jX7_turned 1 := ⟨gt_4 (i := 110) rfl rfl, gt_1 (i := 7) rfl rfl, by decide +kernel, by decide +kernel, by decide +kernel, by decide +kernel⟩
theorem in_X7_turned : Cond.instanceMethod yX7_turned ∈ gt := gt_4 (i := 108) rfl rfl
theorem se_X7_turned : Cond.selects RX7 yX7_turned yX7_turned ∈ gt := gt_4 (i := 109) rfl rfl
abbrev jX7_wipe : Jt := (yX7_wipe, cX7_wipe, 3, none)
theorem mk_X7_wipe : Mk jX7_wipe 1 := ⟨gt_4 (i := 58) rfl rfl, gt_1 (i := 7) rfl rfl, by decide +kernel, by decide +kernel, by decide +kernel, by decide +kernel⟩
theorem in_X7_wipe : Cond.instanceMethod yX7_wipe ∈ gt := gt_4 (i := 57) rfl rfl
theorem se_X7_wipe : Cond.selects RX7 yX7_wipe yX7_wipe ∈ gt := gt_0 (i := 31) rfl rfl
abbrev jX7_within : Jt := (yX7_within, cX7_within, 3, (some .boolean))
theorem mk_X7_within : Mk jX7_within 3 := ⟨gt_3 (i := 190) rfl rfl, gt_1 (i := 7) rfl rfl, by decide +kernel, by decide +kernel, by decide +kernel, by decide +kernel⟩
theorem st_X7_within : Cond.static yX7_within ∈ gt := gt_3 (i := 189) rfl rfl
abbrev jX7_write : Jt := (yX7_write, cX7_write, 2, (some .int))
theorem mk_X7_write : Mk jX7_write 1 := ⟨gt_4 (i := 39) rfl rfl, gt_1 (i := 7) rfl rfl, by decide +kernel, by decide +kernel, by decide +kernel, by decide +kernel⟩
theorem in_X7_write : Cond.instanceMethod yX7_write ∈ gt := gt_4 (i := 37) rfl rfl
theorem se_X7_write : Cond.selects RX7 yX7_write yX7_write ∈ gt := gt_4 (i := 38) rfl rfl
end
section
theorem dX0_init_0 : decode cX0_init 0 = .ok (.aload_n 0, 1) := by decide +kernel
theorem dX0_init_1 : decode cX0_init 1 = .ok (.invokespecial 3, 3) := by decide +kernel
theorem dX0_init_4 : decode cX0_init 4 = .ok (.aload_n 0, 1) := by decide +kernel
theorem dX0_init_5 : decode cX0_init 5 = .ok (.bipush 105, 2) := by decide +kernel
theorem dX0_init_7 : decode cX0_init 7 = .ok (.newarray .int, 2) := by decide +kernel
theorem dX0_init_9 : decode cX0_init 9 = .ok (.putfield 9, 3) := by decide +kernel
theorem dX0_init_12 : decode cX0_init 12 = .ok (.aload_n 0, 1) := by decide +kernel
theorem dX0_init_13 : decode cX0_init 13 = .ok (.sipush 256, 3) := by decide +kernel
theorem dX0_init_16 : decode cX0_init 16 = .ok (.newarray .long, 2) := by decide +kernel
theorem dX0_init_18 : decode cX0_init 18 = .ok (.putfield 15, 3) := by decide +kernel
theorem dX0_init_21 : decode cX0_init 21 = .ok (.aload_n 0, 1) := by decide +kernel
theorem dX0_init_22 : decode cX0_init 22 = .ok (.sipush 256, 3) := by decide +kernel
theorem dX0_init_25 : decode cX0_init 25 = .ok (.newarray .long, 2) := by decide +kernel
theorem dX0_init_27 : decode cX0_init 27 = .ok (.putfield 19, 3) := by decide +kernel
theorem dX0_init_30 : decode cX0_init 30 = .ok (.aload_n 0, 1) := by decide +kernel
theorem dX0_init_31 : decode cX0_init 31 = .ok (.bipush 104, 2) := by decide +kernel
theorem dX0_init_33 : decode cX0_init 33 = .ok (.newarray .int, 2) := by decide +kernel
theorem dX0_init_35 : decode cX0_init 35 = .ok (.putfield 22, 3) := by decide +kernel
theorem dX0_init_38 : decode cX0_init 38 = .ok (.aload_n 0, 1) := by decide +kernel
theorem dX0_init_39 : decode cX0_init 39 = .ok (.new 25, 3) := by decide +kernel
theorem dX0_init_42 : decode cX0_init 42 = .ok (.dup, 1) := by decide +kernel
theorem dX0_init_43 : decode cX0_init 43 = .ok (.invokespecial 27, 3) := by decide +kernel
theorem dX0_init_46 : decode cX0_init 46 = .ok (.putfield 28, 3) := by decide +kernel
theorem dX0_init_49 : decode cX0_init 49 = .ok (.aload_n 0, 1) := by decide +kernel
theorem dX0_init_50 : decode cX0_init 50 = .ok (.aload_n 1, 1) := by decide +kernel
theorem dX0_init_51 : decode cX0_init 51 = .ok (.putfield 32, 3) := by decide +kernel
theorem dX0_init_54 : decode cX0_init 54 = .ok (.return_, 1) := by decide +kernel
theorem dX0_become_0 : decode cX0_become 0 = .ok (.aload_n 0, 1) := by decide +kernel
theorem dX0_become_1 : decode cX0_become 1 = .ok (.iload_n 1, 1) := by decide +kernel
theorem dX0_become_2 : decode cX0_become 2 = .ok (.putfield 36, 3) := by decide +kernel
theorem dX0_become_5 : decode cX0_become 5 = .ok (.aload_n 0, 1) := by decide +kernel
theorem dX0_become_6 : decode cX0_become 6 = .ok (.iload_n 2, 1) := by decide +kernel
theorem dX0_become_7 : decode cX0_become 7 = .ok (.putfield 40, 3) := by decide +kernel
theorem dX0_become_10 : decode cX0_become 10 = .ok (.aload_n 0, 1) := by decide +kernel
theorem dX0_become_11 : decode cX0_become 11 = .ok (.invokevirtual 43, 3) := by decide +kernel
theorem dX0_become_14 : decode cX0_become 14 = .ok (.aload_n 0, 1) := by decide +kernel
theorem dX0_become_15 : decode cX0_become 15 = .ok (.bipush 8, 2) := by decide +kernel
theorem dX0_become_17 : decode cX0_become 17 = .ok (.aload_n 0, 1) := by decide +kernel
theorem dX0_become_18 : decode cX0_become 18 = .ok (.getfield 40, 3) := by decide +kernel
theorem dX0_become_21 : decode cX0_become 21 = .ok (.imul, 1) := by decide +kernel
theorem dX0_become_22 : decode cX0_become 22 = .ok (.aload_n 0, 1) := by decide +kernel
theorem dX0_become_23 : decode cX0_become 23 = .ok (.getfield 46, 3) := by decide +kernel
theorem dX0_become_26 : decode cX0_become 26 = .ok (.iadd, 1) := by decide +kernel
theorem dX0_become_27 : decode cX0_become 27 = .ok (.putfield 49, 3) := by decide +kernel
theorem dX0_become_30 : decode cX0_become 30 = .ok (.aload_n 0, 1) := by decide +kernel
theorem dX0_become_31 : decode cX0_become 31 = .ok (.getfield 28, 3) := by decide +kernel
theorem dX0_become_34 : decode cX0_become 34 = .ok (.aload_n 0, 1) := by decide +kernel
theorem dX0_become_35 : decode cX0_become 35 = .ok (.getfield 49, 3) := by decide +kernel
theorem dX0_become_38 : decode cX0_become 38 = .ok (.invokevirtual 52, 3) := by decide +kernel
theorem dX0_become_41 : decode cX0_become 41 = .ok (.aload_n 0, 1) := by decide +kernel
theorem dX0_become_42 : decode cX0_become 42 = .ok (.invokevirtual 56, 3) := by decide +kernel
theorem dX0_become_45 : decode cX0_become 45 = .ok (.return_, 1) := by decide +kernel
theorem dX0_makePolynomial_0 : decode cX0_makePolynomial 0 = .ok (.aload_n 0, 1) := by decide +kernel
theorem dX0_makePolynomial_1 : decode cX0_makePolynomial 1 = .ok (.getfield 9, 3) := by decide +kernel
theorem dX0_makePolynomial_4 : decode cX0_makePolynomial 4 = .ok (.iconst 0, 1) := by decide +kernel
theorem dX0_makePolynomial_5 : decode cX0_makePolynomial 5 = .ok (.invokestatic 59, 3) := by decide +kernel
theorem dX0_makePolynomial_8 : decode cX0_makePolynomial 8 = .ok (.aload_n 0, 1) := by decide +kernel
theorem dX0_makePolynomial_9 : decode cX0_makePolynomial 9 = .ok (.getfield 9, 3) := by decide +kernel
theorem dX0_makePolynomial_12 : decode cX0_makePolynomial 12 = .ok (.iconst 0, 1) := by decide +kernel
theorem dX0_makePolynomial_13 : decode cX0_makePolynomial 13 = .ok (.iconst 1, 1) := by decide +kernel
theorem dX0_makePolynomial_14 : decode cX0_makePolynomial 14 = .ok (.iastore, 1) := by decide +kernel
theorem dX0_makePolynomial_15 : decode cX0_makePolynomial 15 = .ok (.aload_n 0, 1) := by decide +kernel
theorem dX0_makePolynomial_16 : decode cX0_makePolynomial 16 = .ok (.iconst 0, 1) := by decide +kernel
theorem dX0_makePolynomial_17 : decode cX0_makePolynomial 17 = .ok (.putfield 46, 3) := by decide +kernel
theorem dX0_makePolynomial_20 : decode cX0_makePolynomial 20 = .ok (.iconst 1, 1) := by decide +kernel
theorem dX0_makePolynomial_21 : decode cX0_makePolynomial 21 = .ok (.istore_n 1, 1) := by decide +kernel
theorem dX0_makePolynomial_22 : decode cX0_makePolynomial 22 = .ok (.iload_n 1, 1) := by decide +kernel
theorem dX0_makePolynomial_23 : decode cX0_makePolynomial 23 = .ok (.iconst 2, 1) := by decide +kernel
theorem dX0_makePolynomial_24 : decode cX0_makePolynomial 24 = .ok (.aload_n 0, 1) := by decide +kernel
theorem dX0_makePolynomial_25 : decode cX0_makePolynomial 25 = .ok (.getfield 36, 3) := by decide +kernel
theorem dX0_makePolynomial_28 : decode cX0_makePolynomial 28 = .ok (.imul, 1) := by decide +kernel
theorem dX0_makePolynomial_29 : decode cX0_makePolynomial 29 = .ok (.if_icmp .ge 46, 3) := by decide +kernel
theorem dX0_makePolynomial_32 : decode cX0_makePolynomial 32 = .ok (.iload_n 1, 1) := by decide +kernel
theorem dX0_makePolynomial_33 : decode cX0_makePolynomial 33 = .ok (.aload_n 0, 1) := by decide +kernel
theorem dX0_makePolynomial_34 : decode cX0_makePolynomial 34 = .ok (.getfield 32, 3) := by decide +kernel
theorem dX0_makePolynomial_37 : decode cX0_makePolynomial 37 = .ok (.getfield 65, 3) := by decide +kernel
theorem dX0_makePolynomial_40 : decode cX0_makePolynomial 40 = .ok (.invokestatic 70, 3) := by decide +kernel
theorem dX0_makePolynomial_43 : decode cX0_makePolynomial 43 = .ok (.ifCond .eq 26, 3) := by decide +kernel
theorem dX0_makePolynomial_46 : decode cX0_makePolynomial 46 = .ok (.aload_n 0, 1) := by decide +kernel
theorem dX0_makePolynomial_47 : decode cX0_makePolynomial 47 = .ok (.aload_n 0, 1) := by decide +kernel
theorem dX0_makePolynomial_48 : decode cX0_makePolynomial 48 = .ok (.getfield 32, 3) := by decide +kernel
theorem dX0_makePolynomial_51 : decode cX0_makePolynomial 51 = .ok (.iload_n 1, 1) := by decide +kernel
theorem dX0_makePolynomial_52 : decode cX0_makePolynomial 52 = .ok (.invokevirtual 76, 3) := by decide +kernel
theorem dX0_makePolynomial_55 : decode cX0_makePolynomial 55 = .ok (.iload_n 1, 1) := by decide +kernel
theorem dX0_makePolynomial_56 : decode cX0_makePolynomial 56 = .ok (.aload_n 0, 1) := by decide +kernel
theorem dX0_makePolynomial_57 : decode cX0_makePolynomial 57 = .ok (.getfield 32, 3) := by decide +kernel
theorem dX0_makePolynomial_60 : decode cX0_makePolynomial 60 = .ok (.getfield 65, 3) := by decide +kernel
theorem dX0_makePolynomial_63 : decode cX0_makePolynomial 63 = .ok (.invokestatic 80, 3) := by decide +kernel
theorem dX0_makePolynomial_66 : decode cX0_makePolynomial 66 = .ok (.invokevirtual 84, 3) := by decide +kernel
theorem dX0_makePolynomial_69 : decode cX0_makePolynomial 69 = .ok (.iinc 1 2, 3) := by decide +kernel
theorem dX0_makePolynomial_72 : decode cX0_makePolynomial 72 = .ok (.goto (-50), 3) := by decide +kernel
theorem dX0_makePolynomial_75 : decode cX0_makePolynomial 75 = .ok (.return_, 1) := by decide +kernel
theorem dX0_multiplyBy_0 : decode cX0_multiplyBy 0 = .ok (.aload_n 0, 1) := by decide +kernel
theorem dX0_multiplyBy_1 : decode cX0_multiplyBy 1 = .ok (.getfield 46, 3) := by decide +kernel
theorem dX0_multiplyBy_4 : decode cX0_multiplyBy 4 = .ok (.istore_n 3, 1) := by decide +kernel
theorem dX0_multiplyBy_5 : decode cX0_multiplyBy 5 = .ok (.iload_n 3, 1) := by decide +kernel
theorem dX0_multiplyBy_6 : decode cX0_multiplyBy 6 = .ok (.ifCond .lt 59, 3) := by decide +kernel
theorem dX0_multiplyBy_9 : decode cX0_multiplyBy 9 = .ok (.aload_n 0, 1) := by decide +kernel
theorem dX0_multiplyBy_10 : decode cX0_multiplyBy 10 = .ok (.getfield 9, 3) := by decide +kernel
theorem dX0_multiplyBy_13 : decode cX0_multiplyBy 13 = .ok (.iload_n 3, 1) := by decide +kernel
theorem dX0_multiplyBy_14 : decode cX0_multiplyBy 14 = .ok (.iaload, 1) := by decide +kernel
theorem dX0_multiplyBy_15 : decode cX0_multiplyBy 15 = .ok (.iconst 1, 1) := by decide +kernel
theorem dX0_multiplyBy_16 : decode cX0_multiplyBy 16 = .ok (.if_icmp .ne 43, 3) := by decide +kernel
theorem dX0_multiplyBy_19 : decode cX0_multiplyBy 19 = .ok (.aload_n 0, 1) := by decide +kernel
theorem dX0_multiplyBy_20 : decode cX0_multiplyBy 20 = .ok (.getfield 9, 3) := by decide +kernel
theorem dX0_multiplyBy_23 : decode cX0_multiplyBy 23 = .ok (.iload_n 3, 1) := by decide +kernel
theorem dX0_multiplyBy_24 : decode cX0_multiplyBy 24 = .ok (.iconst 0, 1) := by decide +kernel
theorem dX0_multiplyBy_25 : decode cX0_multiplyBy 25 = .ok (.iastore, 1) := by decide +kernel
theorem dX0_multiplyBy_26 : decode cX0_multiplyBy 26 = .ok (.iconst 0, 1) := by decide +kernel
theorem dX0_multiplyBy_27 : decode cX0_multiplyBy 27 = .ok (.istore 4, 2) := by decide +kernel
theorem dX0_multiplyBy_29 : decode cX0_multiplyBy 29 = .ok (.iload 4, 2) := by decide +kernel
theorem dX0_multiplyBy_31 : decode cX0_multiplyBy 31 = .ok (.iload_n 2, 1) := by decide +kernel
theorem dX0_multiplyBy_32 : decode cX0_multiplyBy 32 = .ok (.if_icmp .gt 27, 3) := by decide +kernel
theorem dX0_multiplyBy_35 : decode cX0_multiplyBy 35 = .ok (.aload_n 0, 1) := by decide +kernel
theorem dX0_multiplyBy_36 : decode cX0_multiplyBy 36 = .ok (.getfield 9, 3) := by decide +kernel
theorem dX0_multiplyBy_39 : decode cX0_multiplyBy 39 = .ok (.iload_n 3, 1) := by decide +kernel
theorem dX0_multiplyBy_40 : decode cX0_multiplyBy 40 = .ok (.iload 4, 2) := by decide +kernel
theorem dX0_multiplyBy_42 : decode cX0_multiplyBy 42 = .ok (.iadd, 1) := by decide +kernel
theorem dX0_multiplyBy_43 : decode cX0_multiplyBy 43 = .ok (.dup2, 1) := by decide +kernel
theorem dX0_multiplyBy_44 : decode cX0_multiplyBy 44 = .ok (.iaload, 1) := by decide +kernel
theorem dX0_multiplyBy_45 : decode cX0_multiplyBy 45 = .ok (.iload_n 1, 1) := by decide +kernel
theorem dX0_multiplyBy_46 : decode cX0_multiplyBy 46 = .ok (.iload 4, 2) := by decide +kernel
theorem dX0_multiplyBy_48 : decode cX0_multiplyBy 48 = .ok (.ishr, 1) := by decide +kernel
theorem dX0_multiplyBy_49 : decode cX0_multiplyBy 49 = .ok (.iconst 1, 1) := by decide +kernel
theorem dX0_multiplyBy_50 : decode cX0_multiplyBy 50 = .ok (.iand, 1) := by decide +kernel
theorem dX0_multiplyBy_51 : decode cX0_multiplyBy 51 = .ok (.ixor, 1) := by decide +kernel
theorem dX0_multiplyBy_52 : decode cX0_multiplyBy 52 = .ok (.iastore, 1) := by decide +kernel
theorem dX0_multiplyBy_53 : decode cX0_multiplyBy 53 = .ok (.iinc 4 1, 3) := by decide +kernel
theorem dX0_multiplyBy_56 : decode cX0_multiplyBy 56 = .ok (.goto (-27), 3) := by decide +kernel
theorem dX0_multiplyBy_59 : decode cX0_multiplyBy 59 = .ok (.iinc 3 (-1), 3) := by decide +kernel
theorem dX0_multiplyBy_62 : decode cX0_multiplyBy 62 = .ok (.goto (-57), 3) := by decide +kernel
theorem dX0_multiplyBy_65 : decode cX0_multiplyBy 65 = .ok (.aload_n 0, 1) := by decide +kernel
theorem dX0_multiplyBy_66 : decode cX0_multiplyBy 66 = .ok (.dup, 1) := by decide +kernel
theorem dX0_multiplyBy_67 : decode cX0_multiplyBy 67 = .ok (.getfield 46, 3) := by decide +kernel
theorem dX0_multiplyBy_70 : decode cX0_multiplyBy 70 = .ok (.iload_n 2, 1) := by decide +kernel
theorem dX0_multiplyBy_71 : decode cX0_multiplyBy 71 = .ok (.iadd, 1) := by decide +kernel
theorem dX0_multiplyBy_72 : decode cX0_multiplyBy 72 = .ok (.putfield 46, 3) := by decide +kernel
theorem dX0_multiplyBy_75 : decode cX0_multiplyBy 75 = .ok (.return_, 1) := by decide +kernel
theorem dX0_makeSteps_0 : decode cX0_makeSteps 0 = .ok (.aload_n 0, 1) := by decide +kernel
theorem dX0_makeSteps_1 : decode cX0_makeSteps 1 = .ok (.invokevirtual 88, 3) := by decide +kernel
theorem dX0_makeSteps_4 : decode cX0_makeSteps 4 = .ok (.aload_n 0, 1) := by decide +kernel
theorem dX0_makeSteps_5 : decode cX0_makeSteps 5 = .ok (.getfield 91, 3) := by decide +kernel
theorem dX0_makeSteps_8 : decode cX0_makeSteps 8 = .ok (.lstore_n 1, 1) := by decide +kernel
theorem dX0_makeSteps_9 : decode cX0_makeSteps 9 = .ok (.aload_n 0, 1) := by decide +kernel
theorem dX0_makeSteps_10 : decode cX0_makeSteps 10 = .ok (.getfield 95, 3) := by decide +kernel
theorem dX0_makeSteps_13 : decode cX0_makeSteps 13 = .ok (.lstore_n 3, 1) := by decide +kernel
theorem dX0_makeSteps_14 : decode cX0_makeSteps 14 = .ok (.iconst 1, 1) := by decide +kernel
theorem dX0_makeSteps_15 : decode cX0_makeSteps 15 = .ok (.istore 5, 2) := by decide +kernel
theorem dX0_makeSteps_17 : decode cX0_makeSteps 17 = .ok (.iload 5, 2) := by decide +kernel
theorem dX0_makeSteps_19 : decode cX0_makeSteps 19 = .ok (.sipush 256, 3) := by decide +kernel
theorem dX0_makeSteps_22 : decode cX0_makeSteps 22 = .ok (.if_icmp .ge 141, 3) := by decide +kernel
theorem dX0_makeSteps_25 : decode cX0_makeSteps 25 = .ok (.iconst 0, 1) := by decide +kernel
theorem dX0_makeSteps_26 : decode cX0_makeSteps 26 = .ok (.istore 6, 2) := by decide +kernel
theorem dX0_makeSteps_28 : decode cX0_makeSteps 28 = .ok (.iload 6, 2) := by decide +kernel
theorem dX0_makeSteps_30 : decode cX0_makeSteps 30 = .ok (.iload 5, 2) := by decide +kernel
theorem dX0_makeSteps_32 : decode cX0_makeSteps 32 = .ok (.if_icmp .ge 53, 3) := by decide +kernel
theorem dX0_makeSteps_35 : decode cX0_makeSteps 35 = .ok (.aload_n 0, 1) := by decide +kernel
theorem dX0_makeSteps_36 : decode cX0_makeSteps 36 = .ok (.getfield 15, 3) := by decide +kernel
theorem dX0_makeSteps_39 : decode cX0_makeSteps 39 = .ok (.iload 5, 2) := by decide +kernel
theorem dX0_makeSteps_41 : decode cX0_makeSteps 41 = .ok (.iload 6, 2) := by decide +kernel
theorem dX0_makeSteps_43 : decode cX0_makeSteps 43 = .ok (.iadd, 1) := by decide +kernel
theorem dX0_makeSteps_44 : decode cX0_makeSteps 44 = .ok (.aload_n 0, 1) := by decide +kernel
theorem dX0_makeSteps_45 : decode cX0_makeSteps 45 = .ok (.getfield 91, 3) := by decide +kernel
theorem dX0_makeSteps_48 : decode cX0_makeSteps 48 = .ok (.aload_n 0, 1) := by decide +kernel
theorem dX0_makeSteps_49 : decode cX0_makeSteps 49 = .ok (.getfield 15, 3) := by decide +kernel
theorem dX0_makeSteps_52 : decode cX0_makeSteps 52 = .ok (.iload 6, 2) := by decide +kernel
theorem dX0_makeSteps_54 : decode cX0_makeSteps 54 = .ok (.laload, 1) := by decide +kernel
theorem dX0_makeSteps_55 : decode cX0_makeSteps 55 = .ok (.lxor, 1) := by decide +kernel
theorem dX0_makeSteps_56 : decode cX0_makeSteps 56 = .ok (.lastore, 1) := by decide +kernel
theorem dX0_makeSteps_57 : decode cX0_makeSteps 57 = .ok (.aload_n 0, 1) := by decide +kernel
theorem dX0_makeSteps_58 : decode cX0_makeSteps 58 = .ok (.getfield 19, 3) := by decide +kernel
theorem dX0_makeSteps_61 : decode cX0_makeSteps 61 = .ok (.iload 5, 2) := by decide +kernel
theorem dX0_makeSteps_63 : decode cX0_makeSteps 63 = .ok (.iload 6, 2) := by decide +kernel
theorem dX0_makeSteps_65 : decode cX0_makeSteps 65 = .ok (.iadd, 1) := by decide +kernel
theorem dX0_makeSteps_66 : decode cX0_makeSteps 66 = .ok (.aload_n 0, 1) := by decide +kernel
theorem dX0_makeSteps_67 : decode cX0_makeSteps 67 = .ok (.getfield 95, 3) := by decide +kernel
theorem dX0_makeSteps_70 : decode cX0_makeSteps 70 = .ok (.aload_n 0, 1) := by decide +kernel
theorem dX0_makeSteps_71 : decode cX0_makeSteps 71 = .ok (.getfield 19, 3) := by decide +kernel
theorem dX0_makeSteps_74 : decode cX0_makeSteps 74 = .ok (.iload 6, 2) := by decide +kernel
theorem dX0_makeSteps_76 : decode cX0_makeSteps 76 = .ok (.laload, 1) := by decide +kernel
theorem dX0_makeSteps_77 : decode cX0_makeSteps 77 = .ok (.lxor, 1) := by decide +kernel
theorem dX0_makeSteps_78 : decode cX0_makeSteps 78 = .ok (.lastore, 1) := by decide +kernel
theorem dX0_makeSteps_79 : decode cX0_makeSteps 79 = .ok (.iinc 6 1, 3) := by decide +kernel
theorem dX0_makeSteps_82 : decode cX0_makeSteps 82 = .ok (.goto (-54), 3) := by decide +kernel
theorem dX0_makeSteps_85 : decode cX0_makeSteps 85 = .ok (.aload_n 0, 1) := by decide +kernel
theorem dX0_makeSteps_86 : decode cX0_makeSteps 86 = .ok (.getfield 91, 3) := by decide +kernel
theorem dX0_makeSteps_89 : decode cX0_makeSteps 89 = .ok (.lconst 0, 1) := by decide +kernel
theorem dX0_makeSteps_90 : decode cX0_makeSteps 90 = .ok (.lcmp, 1) := by decide +kernel
theorem dX0_makeSteps_91 : decode cX0_makeSteps 91 = .ok (.ifCond .ge 7, 3) := by decide +kernel
theorem dX0_makeSteps_94 : decode cX0_makeSteps 94 = .ok (.iconst 1, 1) := by decide +kernel
theorem dX0_makeSteps_95 : decode cX0_makeSteps 95 = .ok (.goto 4, 3) := by decide +kernel
theorem dX0_makeSteps_98 : decode cX0_makeSteps 98 = .ok (.iconst 0, 1) := by decide +kernel
theorem dX0_makeSteps_99 : decode cX0_makeSteps 99 = .ok (.istore 6, 2) := by decide +kernel
theorem dX0_makeSteps_101 : decode cX0_makeSteps 101 = .ok (.aload_n 0, 1) := by decide +kernel
theorem dX0_makeSteps_102 : decode cX0_makeSteps 102 = .ok (.aload_n 0, 1) := by decide +kernel
theorem dX0_makeSteps_103 : decode cX0_makeSteps 103 = .ok (.getfield 91, 3) := by decide +kernel
theorem dX0_makeSteps_106 : decode cX0_makeSteps 106 = .ok (.iconst 1, 1) := by decide +kernel
theorem dX0_makeSteps_107 : decode cX0_makeSteps 107 = .ok (.lshl, 1) := by decide +kernel
theorem dX0_makeSteps_108 : decode cX0_makeSteps 108 = .ok (.aload_n 0, 1) := by decide +kernel
theorem dX0_makeSteps_109 : decode cX0_makeSteps 109 = .ok (.getfield 95, 3) := by decide +kernel
theorem dX0_makeSteps_112 : decode cX0_makeSteps 112 = .ok (.bipush 63, 2) := by decide +kernel
theorem dX0_makeSteps_114 : decode cX0_makeSteps 114 = .ok (.lushr, 1) := by decide +kernel
theorem dX0_makeSteps_115 : decode cX0_makeSteps 115 = .ok (.lor, 1) := by decide +kernel
theorem dX0_makeSteps_116 : decode cX0_makeSteps 116 = .ok (.putfield 91, 3) := by decide +kernel
theorem dX0_makeSteps_119 : decode cX0_makeSteps 119 = .ok (.aload_n 0, 1) := by decide +kernel
theorem dX0_makeSteps_120 : decode cX0_makeSteps 120 = .ok (.dup, 1) := by decide +kernel
theorem dX0_makeSteps_121 : decode cX0_makeSteps 121 = .ok (.getfield 95, 3) := by decide +kernel
theorem dX0_makeSteps_124 : decode cX0_makeSteps 124 = .ok (.iconst 1, 1) := by decide +kernel
theorem dX0_makeSteps_125 : decode cX0_makeSteps 125 = .ok (.lshl, 1) := by decide +kernel
theorem dX0_makeSteps_126 : decode cX0_makeSteps 126 = .ok (.putfield 95, 3) := by decide +kernel
theorem dX0_makeSteps_129 : decode cX0_makeSteps 129 = .ok (.iload 6, 2) := by decide +kernel
theorem dX0_makeSteps_131 : decode cX0_makeSteps 131 = .ok (.ifCond .eq 23, 3) := by decide +kernel
theorem dX0_makeSteps_134 : decode cX0_makeSteps 134 = .ok (.aload_n 0, 1) := by decide +kernel
theorem dX0_makeSteps_135 : decode cX0_makeSteps 135 = .ok (.dup, 1) := by decide +kernel
theorem dX0_makeSteps_136 : decode cX0_makeSteps 136 = .ok (.getfield 91, 3) := by decide +kernel
theorem dX0_makeSteps_139 : decode cX0_makeSteps 139 = .ok (.lload_n 1, 1) := by decide +kernel
theorem dX0_makeSteps_140 : decode cX0_makeSteps 140 = .ok (.lxor, 1) := by decide +kernel
theorem dX0_makeSteps_141 : decode cX0_makeSteps 141 = .ok (.putfield 91, 3) := by decide +kernel
theorem dX0_makeSteps_144 : decode cX0_makeSteps 144 = .ok (.aload_n 0, 1) := by decide +kernel
theorem dX0_makeSteps_145 : decode cX0_makeSteps 145 = .ok (.dup, 1) := by decide +kernel
theorem dX0_makeSteps_146 : decode cX0_makeSteps 146 = .ok (.getfield 95, 3) := by decide +kernel
theorem dX0_makeSteps_149 : decode cX0_makeSteps 149 = .ok (.lload_n 3, 1) := by decide +kernel
theorem dX0_makeSteps_150 : decode cX0_makeSteps 150 = .ok (.lxor, 1) := by decide +kernel
theorem dX0_makeSteps_151 : decode cX0_makeSteps 151 = .ok (.putfield 95, 3) := by decide +kernel
theorem dX0_makeSteps_154 : decode cX0_makeSteps 154 = .ok (.iload 5, 2) := by decide +kernel
theorem dX0_makeSteps_156 : decode cX0_makeSteps 156 = .ok (.iconst 1, 1) := by decide +kernel
theorem dX0_makeSteps_157 : decode cX0_makeSteps 157 = .ok (.ishl, 1) := by decide +kernel
theorem dX0_makeSteps_158 : decode cX0_makeSteps 158 = .ok (.istore 5, 2) := by decide +kernel
theorem dX0_makeSteps_160 : decode cX0_makeSteps 160 = .ok (.goto (-143), 3) := by decide +kernel
theorem dX0_makeSteps_163 : decode cX0_makeSteps 163 = .ok (.return_, 1) := by decide +kernel
theorem dX0_loadPolynomial_0 : decode cX0_loadPolynomial 0 = .ok (.aload_n 0, 1) := by decide +kernel
theorem dX0_loadPolynomial_1 : decode cX0_loadPolynomial 1 = .ok (.lconst 0, 1) := by decide +kernel
theorem dX0_loadPolynomial_2 : decode cX0_loadPolynomial 2 = .ok (.putfield 91, 3) := by decide +kernel
theorem dX0_loadPolynomial_5 : decode cX0_loadPolynomial 5 = .ok (.aload_n 0, 1) := by decide +kernel
theorem dX0_loadPolynomial_6 : decode cX0_loadPolynomial 6 = .ok (.lconst 0, 1) := by decide +kernel
theorem dX0_loadPolynomial_7 : decode cX0_loadPolynomial 7 = .ok (.putfield 95, 3) := by decide +kernel
theorem dX0_loadPolynomial_10 : decode cX0_loadPolynomial 10 = .ok (.iconst 0, 1) := by decide +kernel
theorem dX0_loadPolynomial_11 : decode cX0_loadPolynomial 11 = .ok (.istore_n 1, 1) := by decide +kernel
theorem dX0_loadPolynomial_12 : decode cX0_loadPolynomial 12 = .ok (.iload_n 1, 1) := by decide +kernel
theorem dX0_loadPolynomial_13 : decode cX0_loadPolynomial 13 = .ok (.aload_n 0, 1) := by decide +kernel
theorem dX0_loadPolynomial_14 : decode cX0_loadPolynomial 14 = .ok (.getfield 46, 3) := by decide +kernel
theorem dX0_loadPolynomial_17 : decode cX0_loadPolynomial 17 = .ok (.if_icmp .ge 63, 3) := by decide +kernel
theorem dX0_loadPolynomial_20 : decode cX0_loadPolynomial 20 = .ok (.aload_n 0, 1) := by decide +kernel
theorem dX0_loadPolynomial_21 : decode cX0_loadPolynomial 21 = .ok (.getfield 9, 3) := by decide +kernel
theorem dX0_loadPolynomial_24 : decode cX0_loadPolynomial 24 = .ok (.aload_n 0, 1) := by decide +kernel
theorem dX0_loadPolynomial_25 : decode cX0_loadPolynomial 25 = .ok (.getfield 46, 3) := by decide +kernel
theorem dX0_loadPolynomial_28 : decode cX0_loadPolynomial 28 = .ok (.iconst 1, 1) := by decide +kernel
theorem dX0_loadPolynomial_29 : decode cX0_loadPolynomial 29 = .ok (.isub, 1) := by decide +kernel
theorem dX0_loadPolynomial_30 : decode cX0_loadPolynomial 30 = .ok (.iload_n 1, 1) := by decide +kernel
theorem dX0_loadPolynomial_31 : decode cX0_loadPolynomial 31 = .ok (.isub, 1) := by decide +kernel
theorem dX0_loadPolynomial_32 : decode cX0_loadPolynomial 32 = .ok (.iaload, 1) := by decide +kernel
theorem dX0_loadPolynomial_33 : decode cX0_loadPolynomial 33 = .ok (.i2l, 1) := by decide +kernel
theorem dX0_loadPolynomial_34 : decode cX0_loadPolynomial 34 = .ok (.lstore_n 2, 1) := by decide +kernel
theorem dX0_loadPolynomial_35 : decode cX0_loadPolynomial 35 = .ok (.iload_n 1, 1) := by decide +kernel
theorem dX0_loadPolynomial_36 : decode cX0_loadPolynomial 36 = .ok (.bipush 64, 2) := by decide +kernel
theorem dX0_loadPolynomial_38 : decode cX0_loadPolynomial 38 = .ok (.if_icmp .ge 21, 3) := by decide +kernel
theorem dX0_loadPolynomial_41 : decode cX0_loadPolynomial 41 = .ok (.aload_n 0, 1) := by decide +kernel
theorem dX0_loadPolynomial_42 : decode cX0_loadPolynomial 42 = .ok (.dup, 1) := by decide +kernel
theorem dX0_loadPolynomial_43 : decode cX0_loadPolynomial 43 = .ok (.getfield 91, 3) := by decide +kernel
theorem dX0_loadPolynomial_46 : decode cX0_loadPolynomial 46 = .ok (.lload_n 2, 1) := by decide +kernel
theorem dX0_loadPolynomial_47 : decode cX0_loadPolynomial 47 = .ok (.bipush 63, 2) := by decide +kernel
theorem dX0_loadPolynomial_49 : decode cX0_loadPolynomial 49 = .ok (.iload_n 1, 1) := by decide +kernel
theorem dX0_loadPolynomial_50 : decode cX0_loadPolynomial 50 = .ok (.isub, 1) := by decide +kernel
theorem dX0_loadPolynomial_51 : decode cX0_loadPolynomial 51 = .ok (.lshl, 1) := by decide +kernel
theorem dX0_loadPolynomial_52 : decode cX0_loadPolynomial 52 = .ok (.lor, 1) := by decide +kernel
theorem dX0_loadPolynomial_53 : decode cX0_loadPolynomial 53 = .ok (.putfield 91, 3) := by decide +kernel
theorem dX0_loadPolynomial_56 : decode cX0_loadPolynomial 56 = .ok (.goto 18, 3) := by decide +kernel
theorem dX0_loadPolynomial_59 : decode cX0_loadPolynomial 59 = .ok (.aload_n 0, 1) := by decide +kernel
theorem dX0_loadPolynomial_60 : decode cX0_loadPolynomial 60 = .ok (.dup, 1) := by decide +kernel
theorem dX0_loadPolynomial_61 : decode cX0_loadPolynomial 61 = .ok (.getfield 95, 3) := by decide +kernel
theorem dX0_loadPolynomial_64 : decode cX0_loadPolynomial 64 = .ok (.lload_n 2, 1) := by decide +kernel
theorem dX0_loadPolynomial_65 : decode cX0_loadPolynomial 65 = .ok (.bipush 127, 2) := by decide +kernel
theorem dX0_loadPolynomial_67 : decode cX0_loadPolynomial 67 = .ok (.iload_n 1, 1) := by decide +kernel
theorem dX0_loadPolynomial_68 : decode cX0_loadPolynomial 68 = .ok (.isub, 1) := by decide +kernel
theorem dX0_loadPolynomial_69 : decode cX0_loadPolynomial 69 = .ok (.lshl, 1) := by decide +kernel
theorem dX0_loadPolynomial_70 : decode cX0_loadPolynomial 70 = .ok (.lor, 1) := by decide +kernel
theorem dX0_loadPolynomial_71 : decode cX0_loadPolynomial 71 = .ok (.putfield 95, 3) := by decide +kernel
theorem dX0_loadPolynomial_74 : decode cX0_loadPolynomial 74 = .ok (.iinc 1 1, 3) := by decide +kernel
theorem dX0_loadPolynomial_77 : decode cX0_loadPolynomial 77 = .ok (.goto (-65), 3) := by decide +kernel
theorem dX0_loadPolynomial_80 : decode cX0_loadPolynomial 80 = .ok (.return_, 1) := by decide +kernel
theorem dX0_takeData_0 : decode cX0_takeData 0 = .ok (.aload_n 0, 1) := by decide +kernel
theorem dX0_takeData_1 : decode cX0_takeData 1 = .ok (.lconst 0, 1) := by decide +kernel
theorem dX0_takeData_2 : decode cX0_takeData 2 = .ok (.putfield 91, 3) := by decide +kernel
theorem dX0_takeData_5 : decode cX0_takeData 5 = .ok (.aload_n 0, 1) := by decide +kernel
theorem dX0_takeData_6 : decode cX0_takeData 6 = .ok (.lconst 0, 1) := by decide +kernel
theorem dX0_takeData_7 : decode cX0_takeData 7 = .ok (.putfield 95, 3) := by decide +kernel
theorem dX0_takeData_10 : decode cX0_takeData 10 = .ok (.iconst 0, 1) := by decide +kernel
theorem dX0_takeData_11 : decode cX0_takeData 11 = .ok (.istore_n 2, 1) := by decide +kernel
theorem dX0_takeData_12 : decode cX0_takeData 12 = .ok (.iload_n 2, 1) := by decide +kernel
theorem dX0_takeData_13 : decode cX0_takeData 13 = .ok (.aload_n 0, 1) := by decide +kernel
theorem dX0_takeData_14 : decode cX0_takeData 14 = .ok (.getfield 40, 3) := by decide +kernel
theorem dX0_takeData_17 : decode cX0_takeData 17 = .ok (.if_icmp .ge 72, 3) := by decide +kernel
theorem dX0_takeData_20 : decode cX0_takeData 20 = .ok (.aload_n 0, 1) := by decide +kernel
theorem dX0_takeData_21 : decode cX0_takeData 21 = .ok (.getfield 91, 3) := by decide +kernel
theorem dX0_takeData_24 : decode cX0_takeData 24 = .ok (.bipush 56, 2) := by decide +kernel
theorem dX0_takeData_26 : decode cX0_takeData 26 = .ok (.lushr, 1) := by decide +kernel
theorem dX0_takeData_27 : decode cX0_takeData 27 = .ok (.l2i, 1) := by decide +kernel
theorem dX0_takeData_28 : decode cX0_takeData 28 = .ok (.sipush 255, 3) := by decide +kernel
theorem dX0_takeData_31 : decode cX0_takeData 31 = .ok (.ixor, 1) := by decide +kernel
theorem dX0_takeData_32 : decode cX0_takeData 32 = .ok (.aload_n 1, 1) := by decide +kernel
theorem dX0_takeData_33 : decode cX0_takeData 33 = .ok (.iload_n 2, 1) := by decide +kernel
theorem dX0_takeData_34 : decode cX0_takeData 34 = .ok (.invokevirtual 98, 3) := by decide +kernel
theorem dX0_takeData_37 : decode cX0_takeData 37 = .ok (.ixor, 1) := by decide +kernel
theorem dX0_takeData_38 : decode cX0_takeData 38 = .ok (.istore_n 3, 1) := by decide +kernel
theorem dX0_takeData_39 : decode cX0_takeData 39 = .ok (.aload_n 0, 1) := by decide +kernel
theorem dX0_takeData_40 : decode cX0_takeData 40 = .ok (.aload_n 0, 1) := by decide +kernel
theorem dX0_takeData_41 : decode cX0_takeData 41 = .ok (.getfield 91, 3) := by decide +kernel
theorem dX0_takeData_44 : decode cX0_takeData 44 = .ok (.bipush 8, 2) := by decide +kernel
theorem dX0_takeData_46 : decode cX0_takeData 46 = .ok (.lshl, 1) := by decide +kernel
theorem dX0_takeData_47 : decode cX0_takeData 47 = .ok (.aload_n 0, 1) := by decide +kernel
theorem dX0_takeData_48 : decode cX0_takeData 48 = .ok (.getfield 95, 3) := by decide +kernel
theorem dX0_takeData_51 : decode cX0_takeData 51 = .ok (.bipush 56, 2) := by decide +kernel
theorem dX0_takeData_53 : decode cX0_takeData 53 = .ok (.lushr, 1) := by decide +kernel
theorem dX0_takeData_54 : decode cX0_takeData 54 = .ok (.lor, 1) := by decide +kernel
theorem dX0_takeData_55 : decode cX0_takeData 55 = .ok (.aload_n 0, 1) := by decide +kernel
theorem dX0_takeData_56 : decode cX0_takeData 56 = .ok (.getfield 15, 3) := by decide +kernel
theorem dX0_takeData_59 : decode cX0_takeData 59 = .ok (.iload_n 3, 1) := by decide +kernel
theorem dX0_takeData_60 : decode cX0_takeData 60 = .ok (.laload, 1) := by decide +kernel
theorem dX0_takeData_61 : decode cX0_takeData 61 = .ok (.lxor, 1) := by decide +kernel
theorem dX0_takeData_62 : decode cX0_takeData 62 = .ok (.putfield 91, 3) := by decide +kernel
theorem dX0_takeData_65 : decode cX0_takeData 65 = .ok (.aload_n 0, 1) := by decide +kernel
theorem dX0_takeData_66 : decode cX0_takeData 66 = .ok (.aload_n 0, 1) := by decide +kernel
theorem dX0_takeData_67 : decode cX0_takeData 67 = .ok (.getfield 95, 3) := by decide +kernel
theorem dX0_takeData_70 : decode cX0_takeData 70 = .ok (.bipush 8, 2) := by decide +kernel
theorem dX0_takeData_72 : decode cX0_takeData 72 = .ok (.lshl, 1) := by decide +kernel
theorem dX0_takeData_73 : decode cX0_takeData 73 = .ok (.aload_n 0, 1) := by decide +kernel
theorem dX0_takeData_74 : decode cX0_takeData 74 = .ok (.getfield 19, 3) := by decide +kernel
theorem dX0_takeData_77 : decode cX0_takeData 77 = .ok (.iload_n 3, 1) := by decide +kernel
theorem dX0_takeData_78 : decode cX0_takeData 78 = .ok (.laload, 1) := by decide +kernel
theorem dX0_takeData_79 : decode cX0_takeData 79 = .ok (.lxor, 1) := by decide +kernel
theorem dX0_takeData_80 : decode cX0_takeData 80 = .ok (.putfield 95, 3) := by decide +kernel
theorem dX0_takeData_83 : decode cX0_takeData 83 = .ok (.iinc 2 1, 3) := by decide +kernel
theorem dX0_takeData_86 : decode cX0_takeData 86 = .ok (.goto (-74), 3) := by decide +kernel
theorem dX0_takeData_89 : decode cX0_takeData 89 = .ok (.return_, 1) := by decide +kernel
theorem dX0_registerAt_0 : decode cX0_registerAt 0 = .ok (.iload_n 1, 1) := by decide +kernel
theorem dX0_registerAt_1 : decode cX0_registerAt 1 = .ok (.bipush 64, 2) := by decide +kernel
theorem dX0_registerAt_3 : decode cX0_registerAt 3 = .ok (.if_icmp .ge 15, 3) := by decide +kernel
theorem dX0_registerAt_6 : decode cX0_registerAt 6 = .ok (.aload_n 0, 1) := by decide +kernel
theorem dX0_registerAt_7 : decode cX0_registerAt 7 = .ok (.getfield 91, 3) := by decide +kernel
theorem dX0_registerAt_10 : decode cX0_registerAt 10 = .ok (.bipush 63, 2) := by decide +kernel
theorem dX0_registerAt_12 : decode cX0_registerAt 12 = .ok (.iload_n 1, 1) := by decide +kernel
theorem dX0_registerAt_13 : decode cX0_registerAt 13 = .ok (.isub, 1) := by decide +kernel
theorem dX0_registerAt_14 : decode cX0_registerAt 14 = .ok (.lushr, 1) := by decide +kernel
theorem dX0_registerAt_15 : decode cX0_registerAt 15 = .ok (.goto 12, 3) := by decide +kernel
theorem dX0_registerAt_18 : decode cX0_registerAt 18 = .ok (.aload_n 0, 1) := by decide +kernel
theorem dX0_registerAt_19 : decode cX0_registerAt 19 = .ok (.getfield 95, 3) := by decide +kernel
theorem dX0_registerAt_22 : decode cX0_registerAt 22 = .ok (.bipush 127, 2) := by decide +kernel
theorem dX0_registerAt_24 : decode cX0_registerAt 24 = .ok (.iload_n 1, 1) := by decide +kernel
theorem dX0_registerAt_25 : decode cX0_registerAt 25 = .ok (.isub, 1) := by decide +kernel
theorem dX0_registerAt_26 : decode cX0_registerAt 26 = .ok (.lushr, 1) := by decide +kernel
theorem dX0_registerAt_27 : decode cX0_registerAt 27 = .ok (.l2i, 1) := by decide +kernel
theorem dX0_registerAt_28 : decode cX0_registerAt 28 = .ok (.iconst 1, 1) := by decide +kernel
theorem dX0_registerAt_29 : decode cX0_registerAt 29 = .ok (.iand, 1) := by decide +kernel
theorem dX0_registerAt_30 : decode cX0_registerAt 30 = .ok (.ireturn, 1) := by decide +kernel
theorem dX0_complete_0 : decode cX0_complete 0 = .ok (.aload_n 0, 1) := by decide +kernel
theorem dX0_complete_1 : decode cX0_complete 1 = .ok (.aload_n 1, 1) := by decide +kernel
theorem dX0_complete_2 : decode cX0_complete 2 = .ok (.invokevirtual 101, 3) := by decide +kernel
theorem dX0_complete_5 : decode cX0_complete 5 = .ok (.iconst 0, 1) := by decide +kernel
theorem dX0_complete_6 : decode cX0_complete 6 = .ok (.istore_n 2, 1) := by decide +kernel
theorem dX0_complete_7 : decode cX0_complete 7 = .ok (.iload_n 2, 1) := by decide +kernel
theorem dX0_complete_8 : decode cX0_complete 8 = .ok (.aload_n 0, 1) := by decide +kernel
theorem dX0_complete_9 : decode cX0_complete 9 = .ok (.getfield 46, 3) := by decide +kernel
theorem dX0_complete_12 : decode cX0_complete 12 = .ok (.if_icmp .ge 29, 3) := by decide +kernel
theorem dX0_complete_15 : decode cX0_complete 15 = .ok (.aload_n 1, 1) := by decide +kernel
theorem dX0_complete_16 : decode cX0_complete 16 = .ok (.bipush 8, 2) := by decide +kernel
theorem dX0_complete_18 : decode cX0_complete 18 = .ok (.aload_n 0, 1) := by decide +kernel
theorem dX0_complete_19 : decode cX0_complete 19 = .ok (.getfield 40, 3) := by decide +kernel
theorem dX0_complete_22 : decode cX0_complete 22 = .ok (.imul, 1) := by decide +kernel
theorem dX0_complete_23 : decode cX0_complete 23 = .ok (.iload_n 2, 1) := by decide +kernel
theorem dX0_complete_24 : decode cX0_complete 24 = .ok (.iadd, 1) := by decide +kernel
theorem dX0_complete_25 : decode cX0_complete 25 = .ok (.iconst 1, 1) := by decide +kernel
theorem dX0_complete_26 : decode cX0_complete 26 = .ok (.aload_n 0, 1) := by decide +kernel
theorem dX0_complete_27 : decode cX0_complete 27 = .ok (.iload_n 2, 1) := by decide +kernel
theorem dX0_complete_28 : decode cX0_complete 28 = .ok (.invokevirtual 105, 3) := by decide +kernel
theorem dX0_complete_31 : decode cX0_complete 31 = .ok (.isub, 1) := by decide +kernel
theorem dX0_complete_32 : decode cX0_complete 32 = .ok (.invokevirtual 108, 3) := by decide +kernel
theorem dX0_complete_35 : decode cX0_complete 35 = .ok (.iinc 2 1, 3) := by decide +kernel
theorem dX0_complete_38 : decode cX0_complete 38 = .ok (.goto (-31), 3) := by decide +kernel
theorem dX0_complete_41 : decode cX0_complete 41 = .ok (.return_, 1) := by decide +kernel
theorem dX0_divide_0 : decode cX0_divide 0 = .ok (.aload_n 0, 1) := by decide +kernel
theorem dX0_divide_1 : decode cX0_divide 1 = .ok (.aload_n 1, 1) := by decide +kernel
theorem dX0_divide_2 : decode cX0_divide 2 = .ok (.invokevirtual 101, 3) := by decide +kernel
theorem dX0_divide_5 : decode cX0_divide 5 = .ok (.iconst 1, 1) := by decide +kernel
theorem dX0_divide_6 : decode cX0_divide 6 = .ok (.istore_n 2, 1) := by decide +kernel
theorem dX0_divide_7 : decode cX0_divide 7 = .ok (.iconst 0, 1) := by decide +kernel
theorem dX0_divide_8 : decode cX0_divide 8 = .ok (.istore_n 3, 1) := by decide +kernel
theorem dX0_divide_9 : decode cX0_divide 9 = .ok (.iload_n 3, 1) := by decide +kernel
theorem dX0_divide_10 : decode cX0_divide 10 = .ok (.aload_n 0, 1) := by decide +kernel
theorem dX0_divide_11 : decode cX0_divide 11 = .ok (.getfield 46, 3) := by decide +kernel
theorem dX0_divide_14 : decode cX0_divide 14 = .ok (.if_icmp .ge 62, 3) := by decide +kernel
theorem dX0_divide_17 : decode cX0_divide 17 = .ok (.aload_n 0, 1) := by decide +kernel
theorem dX0_divide_18 : decode cX0_divide 18 = .ok (.iload_n 3, 1) := by decide +kernel
theorem dX0_divide_19 : decode cX0_divide 19 = .ok (.invokevirtual 105, 3) := by decide +kernel
theorem dX0_divide_22 : decode cX0_divide 22 = .ok (.iconst 1, 1) := by decide +kernel
theorem dX0_divide_23 : decode cX0_divide 23 = .ok (.ixor, 1) := by decide +kernel
theorem dX0_divide_24 : decode cX0_divide 24 = .ok (.aload_n 1, 1) := by decide +kernel
theorem dX0_divide_25 : decode cX0_divide 25 = .ok (.bipush 8, 2) := by decide +kernel
theorem dX0_divide_27 : decode cX0_divide 27 = .ok (.aload_n 0, 1) := by decide +kernel
theorem dX0_divide_28 : decode cX0_divide 28 = .ok (.getfield 40, 3) := by decide +kernel
theorem dX0_divide_31 : decode cX0_divide 31 = .ok (.imul, 1) := by decide +kernel
theorem dX0_divide_32 : decode cX0_divide 32 = .ok (.iload_n 3, 1) := by decide +kernel
theorem dX0_divide_33 : decode cX0_divide 33 = .ok (.iadd, 1) := by decide +kernel
theorem dX0_divide_34 : decode cX0_divide 34 = .ok (.invokevirtual 111, 3) := by decide +kernel
theorem dX0_divide_37 : decode cX0_divide 37 = .ok (.ixor, 1) := by decide +kernel
theorem dX0_divide_38 : decode cX0_divide 38 = .ok (.istore 4, 2) := by decide +kernel
theorem dX0_divide_40 : decode cX0_divide 40 = .ok (.aload_n 0, 1) := by decide +kernel
theorem dX0_divide_41 : decode cX0_divide 41 = .ok (.getfield 22, 3) := by decide +kernel
theorem dX0_divide_44 : decode cX0_divide 44 = .ok (.aload_n 0, 1) := by decide +kernel
theorem dX0_divide_45 : decode cX0_divide 45 = .ok (.getfield 46, 3) := by decide +kernel
theorem dX0_divide_48 : decode cX0_divide 48 = .ok (.iconst 1, 1) := by decide +kernel
theorem dX0_divide_49 : decode cX0_divide 49 = .ok (.isub, 1) := by decide +kernel
theorem dX0_divide_50 : decode cX0_divide 50 = .ok (.iload_n 3, 1) := by decide +kernel
theorem dX0_divide_51 : decode cX0_divide 51 = .ok (.isub, 1) := by decide +kernel
theorem dX0_divide_52 : decode cX0_divide 52 = .ok (.iload 4, 2) := by decide +kernel
theorem dX0_divide_54 : decode cX0_divide 54 = .ok (.iastore, 1) := by decide +kernel
theorem dX0_divide_55 : decode cX0_divide 55 = .ok (.iload_n 2, 1) := by decide +kernel
theorem dX0_divide_56 : decode cX0_divide 56 = .ok (.ifCond .eq 12, 3) := by decide +kernel
theorem dX0_divide_59 : decode cX0_divide 59 = .ok (.iload 4, 2) := by decide +kernel
theorem dX0_divide_61 : decode cX0_divide 61 = .ok (.ifCond .ne 7, 3) := by decide +kernel
theorem dX0_divide_64 : decode cX0_divide 64 = .ok (.iconst 1, 1) := by decide +kernel
theorem dX0_divide_65 : decode cX0_divide 65 = .ok (.goto 4, 3) := by decide +kernel
theorem dX0_divide_68 : decode cX0_divide 68 = .ok (.iconst 0, 1) := by decide +kernel
theorem dX0_divide_69 : decode cX0_divide 69 = .ok (.istore_n 2, 1) := by decide +kernel
theorem dX0_divide_70 : decode cX0_divide 70 = .ok (.iinc 3 1, 3) := by decide +kernel
theorem dX0_divide_73 : decode cX0_divide 73 = .ok (.goto (-64), 3) := by decide +kernel
theorem dX0_divide_76 : decode cX0_divide 76 = .ok (.iload_n 2, 1) := by decide +kernel
theorem dX0_divide_77 : decode cX0_divide 77 = .ok (.ireturn, 1) := by decide +kernel
theorem dX0_restAt_0 : decode cX0_restAt 0 = .ok (.aload_n 0, 1) := by decide +kernel
theorem dX0_restAt_1 : decode cX0_restAt 1 = .ok (.getfield 32, 3) := by decide +kernel
theorem dX0_restAt_4 : decode cX0_restAt 4 = .ok (.getfield 114, 3) := by decide +kernel
theorem dX0_restAt_7 : decode cX0_restAt 7 = .ok (.istore_n 2, 1) := by decide +kernel
theorem dX0_restAt_8 : decode cX0_restAt 8 = .ok (.iload_n 1, 1) := by decide +kernel
theorem dX0_restAt_9 : decode cX0_restAt 9 = .ok (.iload_n 2, 1) := by decide +kernel
theorem dX0_restAt_10 : decode cX0_restAt 10 = .ok (.invokestatic 117, 3) := by decide +kernel
theorem dX0_restAt_13 : decode cX0_restAt 13 = .ok (.istore_n 3, 1) := by decide +kernel
theorem dX0_restAt_14 : decode cX0_restAt 14 = .ok (.iconst 0, 1) := by decide +kernel
theorem dX0_restAt_15 : decode cX0_restAt 15 = .ok (.istore 4, 2) := by decide +kernel
theorem dX0_restAt_17 : decode cX0_restAt 17 = .ok (.iconst 0, 1) := by decide +kernel
theorem dX0_restAt_18 : decode cX0_restAt 18 = .ok (.istore 5, 2) := by decide +kernel
theorem dX0_restAt_20 : decode cX0_restAt 20 = .ok (.iconst 0, 1) := by decide +kernel
theorem dX0_restAt_21 : decode cX0_restAt 21 = .ok (.istore 6, 2) := by decide +kernel
theorem dX0_restAt_23 : decode cX0_restAt 23 = .ok (.iload 6, 2) := by decide +kernel
theorem dX0_restAt_25 : decode cX0_restAt 25 = .ok (.aload_n 0, 1) := by decide +kernel
theorem dX0_restAt_26 : decode cX0_restAt 26 = .ok (.getfield 46, 3) := by decide +kernel
theorem dX0_restAt_29 : decode cX0_restAt 29 = .ok (.if_icmp .ge 58, 3) := by decide +kernel
theorem dX0_restAt_32 : decode cX0_restAt 32 = .ok (.aload_n 0, 1) := by decide +kernel
theorem dX0_restAt_33 : decode cX0_restAt 33 = .ok (.getfield 22, 3) := by decide +kernel
theorem dX0_restAt_36 : decode cX0_restAt 36 = .ok (.iload 6, 2) := by decide +kernel
theorem dX0_restAt_38 : decode cX0_restAt 38 = .ok (.iaload, 1) := by decide +kernel
theorem dX0_restAt_39 : decode cX0_restAt 39 = .ok (.iconst 1, 1) := by decide +kernel
theorem dX0_restAt_40 : decode cX0_restAt 40 = .ok (.if_icmp .ne 18, 3) := by decide +kernel
theorem dX0_restAt_43 : decode cX0_restAt 43 = .ok (.iload 4, 2) := by decide +kernel
theorem dX0_restAt_45 : decode cX0_restAt 45 = .ok (.aload_n 0, 1) := by decide +kernel
theorem dX0_restAt_46 : decode cX0_restAt 46 = .ok (.getfield 32, 3) := by decide +kernel
theorem dX0_restAt_49 : decode cX0_restAt 49 = .ok (.getfield 120, 3) := by decide +kernel
theorem dX0_restAt_52 : decode cX0_restAt 52 = .ok (.iload 5, 2) := by decide +kernel
theorem dX0_restAt_54 : decode cX0_restAt 54 = .ok (.iaload, 1) := by decide +kernel
theorem dX0_restAt_55 : decode cX0_restAt 55 = .ok (.ixor, 1) := by decide +kernel
theorem dX0_restAt_56 : decode cX0_restAt 56 = .ok (.istore 4, 2) := by decide +kernel
theorem dX0_restAt_58 : decode cX0_restAt 58 = .ok (.iload 5, 2) := by decide +kernel
theorem dX0_restAt_60 : decode cX0_restAt 60 = .ok (.iload_n 3, 1) := by decide +kernel
theorem dX0_restAt_61 : decode cX0_restAt 61 = .ok (.iadd, 1) := by decide +kernel
theorem dX0_restAt_62 : decode cX0_restAt 62 = .ok (.iload_n 2, 1) := by decide +kernel
theorem dX0_restAt_63 : decode cX0_restAt 63 = .ok (.if_icmp .lt 12, 3) := by decide +kernel
theorem dX0_restAt_66 : decode cX0_restAt 66 = .ok (.iload 5, 2) := by decide +kernel
theorem dX0_restAt_68 : decode cX0_restAt 68 = .ok (.iload_n 3, 1) := by decide +kernel
theorem dX0_restAt_69 : decode cX0_restAt 69 = .ok (.iadd, 1) := by decide +kernel
theorem dX0_restAt_70 : decode cX0_restAt 70 = .ok (.iload_n 2, 1) := by decide +kernel
theorem dX0_restAt_71 : decode cX0_restAt 71 = .ok (.isub, 1) := by decide +kernel
theorem dX0_restAt_72 : decode cX0_restAt 72 = .ok (.goto 7, 3) := by decide +kernel
theorem dX0_restAt_75 : decode cX0_restAt 75 = .ok (.iload 5, 2) := by decide +kernel
theorem dX0_restAt_77 : decode cX0_restAt 77 = .ok (.iload_n 3, 1) := by decide +kernel
theorem dX0_restAt_78 : decode cX0_restAt 78 = .ok (.iadd, 1) := by decide +kernel
theorem dX0_restAt_79 : decode cX0_restAt 79 = .ok (.istore 5, 2) := by decide +kernel
theorem dX0_restAt_81 : decode cX0_restAt 81 = .ok (.iinc 6 1, 3) := by decide +kernel
theorem dX0_restAt_84 : decode cX0_restAt 84 = .ok (.goto (-61), 3) := by decide +kernel
theorem dX0_restAt_87 : decode cX0_restAt 87 = .ok (.iload 4, 2) := by decide +kernel
theorem dX0_restAt_89 : decode cX0_restAt 89 = .ok (.ireturn, 1) := by decide +kernel
theorem dX1_reduced_0 : decode cX1_reduced 0 = .ok (.iload_n 1, 1) := by decide +kernel
theorem dX1_reduced_1 : decode cX1_reduced 1 = .ok (.iconst 1, 1) := by decide +kernel
theorem dX1_reduced_2 : decode cX1_reduced 2 = .ok (.if_icmp .ge 7, 3) := by decide +kernel
theorem dX1_reduced_5 : decode cX1_reduced 5 = .ok (.iconst 0, 1) := by decide +kernel
theorem dX1_reduced_6 : decode cX1_reduced 6 = .ok (.goto 8, 3) := by decide +kernel
theorem dX1_reduced_9 : decode cX1_reduced 9 = .ok (.iload_n 0, 1) := by decide +kernel
theorem dX1_reduced_10 : decode cX1_reduced 10 = .ok (.iload_n 1, 1) := by decide +kernel
theorem dX1_reduced_11 : decode cX1_reduced 11 = .ok (.invokestatic 7, 3) := by decide +kernel
theorem dX1_reduced_14 : decode cX1_reduced 14 = .ok (.ireturn, 1) := by decide +kernel
theorem dX1_doubled_0 : decode cX1_doubled 0 = .ok (.iconst 2, 1) := by decide +kernel
theorem dX1_doubled_1 : decode cX1_doubled 1 = .ok (.iload_n 0, 1) := by decide +kernel
theorem dX1_doubled_2 : decode cX1_doubled 2 = .ok (.imul, 1) := by decide +kernel
theorem dX1_doubled_3 : decode cX1_doubled 3 = .ok (.iload_n 1, 1) := by decide +kernel
theorem dX1_doubled_4 : decode cX1_doubled 4 = .ok (.if_icmp .lt 11, 3) := by decide +kernel
theorem dX1_doubled_7 : decode cX1_doubled 7 = .ok (.iconst 2, 1) := by decide +kernel
theorem dX1_doubled_8 : decode cX1_doubled 8 = .ok (.iload_n 0, 1) := by decide +kernel
theorem dX1_doubled_9 : decode cX1_doubled 9 = .ok (.imul, 1) := by decide +kernel
theorem dX1_doubled_10 : decode cX1_doubled 10 = .ok (.iload_n 1, 1) := by decide +kernel
theorem dX1_doubled_11 : decode cX1_doubled 11 = .ok (.isub, 1) := by decide +kernel
theorem dX1_doubled_12 : decode cX1_doubled 12 = .ok (.goto 6, 3) := by decide +kernel
theorem dX1_doubled_15 : decode cX1_doubled 15 = .ok (.iconst 2, 1) := by decide +kernel
theorem dX1_doubled_16 : decode cX1_doubled 16 = .ok (.iload_n 0, 1) := by decide +kernel
theorem dX1_doubled_17 : decode cX1_doubled 17 = .ok (.imul, 1) := by decide +kernel
theorem dX1_doubled_18 : decode cX1_doubled 18 = .ok (.ireturn, 1) := by decide +kernel
theorem dX1_size_0 : decode cX1_size 0 = .ok (.iconst 1, 1) := by decide +kernel
theorem dX1_size_1 : decode cX1_size 1 = .ok (.iload_n 1, 1) := by decide +kernel
theorem dX1_size_2 : decode cX1_size 2 = .ok (.ishl, 1) := by decide +kernel
theorem dX1_size_3 : decode cX1_size 3 = .ok (.iconst 1, 1) := by decide +kernel
theorem dX1_size_4 : decode cX1_size 4 = .ok (.isub, 1) := by decide +kernel
theorem dX1_size_5 : decode cX1_size 5 = .ok (.istore_n 2, 1) := by decide +kernel
theorem dX1_size_6 : decode cX1_size 6 = .ok (.iload_n 0, 1) := by decide +kernel
theorem dX1_size_7 : decode cX1_size 7 = .ok (.iload_n 2, 1) := by decide +kernel
theorem dX1_size_8 : decode cX1_size 8 = .ok (.invokestatic 13, 3) := by decide +kernel
theorem dX1_size_11 : decode cX1_size 11 = .ok (.istore_n 3, 1) := by decide +kernel
theorem dX1_size_12 : decode cX1_size 12 = .ok (.iload_n 3, 1) := by decide +kernel
theorem dX1_size_13 : decode cX1_size 13 = .ok (.iload_n 2, 1) := by decide +kernel
theorem dX1_size_14 : decode cX1_size 14 = .ok (.invokestatic 18, 3) := by decide +kernel
theorem dX1_size_17 : decode cX1_size 17 = .ok (.istore 4, 2) := by decide +kernel
theorem dX1_size_19 : decode cX1_size 19 = .ok (.iconst 1, 1) := by decide +kernel
theorem dX1_size_20 : decode cX1_size 20 = .ok (.istore 5, 2) := by decide +kernel
theorem dX1_size_22 : decode cX1_size 22 = .ok (.iload 4, 2) := by decide +kernel
theorem dX1_size_24 : decode cX1_size 24 = .ok (.iload_n 3, 1) := by decide +kernel
theorem dX1_size_25 : decode cX1_size 25 = .ok (.if_icmp .eq 23, 3) := by decide +kernel
theorem dX1_size_28 : decode cX1_size 28 = .ok (.iload 5, 2) := by decide +kernel
theorem dX1_size_30 : decode cX1_size 30 = .ok (.iload_n 1, 1) := by decide +kernel
theorem dX1_size_31 : decode cX1_size 31 = .ok (.if_icmp .ge 17, 3) := by decide +kernel
theorem dX1_size_34 : decode cX1_size 34 = .ok (.iload 4, 2) := by decide +kernel
theorem dX1_size_36 : decode cX1_size 36 = .ok (.iload_n 2, 1) := by decide +kernel
theorem dX1_size_37 : decode cX1_size 37 = .ok (.invokestatic 18, 3) := by decide +kernel
theorem dX1_size_40 : decode cX1_size 40 = .ok (.istore 4, 2) := by decide +kernel
theorem dX1_size_42 : decode cX1_size 42 = .ok (.iinc 5 1, 3) := by decide +kernel
theorem dX1_size_45 : decode cX1_size 45 = .ok (.goto (-23), 3) := by decide +kernel
theorem dX1_size_48 : decode cX1_size 48 = .ok (.iload 5, 2) := by decide +kernel
theorem dX1_size_50 : decode cX1_size 50 = .ok (.ireturn, 1) := by decide +kernel
theorem dX1_least_0 : decode cX1_least 0 = .ok (.iconst 1, 1) := by decide +kernel
theorem dX1_least_1 : decode cX1_least 1 = .ok (.iload_n 1, 1) := by decide +kernel
theorem dX1_least_2 : decode cX1_least 2 = .ok (.ishl, 1) := by decide +kernel
theorem dX1_least_3 : decode cX1_least 3 = .ok (.iconst 1, 1) := by decide +kernel
theorem dX1_least_4 : decode cX1_least 4 = .ok (.isub, 1) := by decide +kernel
theorem dX1_least_5 : decode cX1_least 5 = .ok (.istore_n 2, 1) := by decide +kernel
theorem dX1_least_6 : decode cX1_least 6 = .ok (.iload_n 0, 1) := by decide +kernel
theorem dX1_least_7 : decode cX1_least 7 = .ok (.iload_n 2, 1) := by decide +kernel
theorem dX1_least_8 : decode cX1_least 8 = .ok (.invokestatic 13, 3) := by decide +kernel
theorem dX1_least_11 : decode cX1_least 11 = .ok (.istore_n 3, 1) := by decide +kernel
theorem dX1_least_12 : decode cX1_least 12 = .ok (.iload_n 3, 1) := by decide +kernel
theorem dX1_least_13 : decode cX1_least 13 = .ok (.istore 4, 2) := by decide +kernel
theorem dX1_least_15 : decode cX1_least 15 = .ok (.iconst 1, 1) := by decide +kernel
theorem dX1_least_16 : decode cX1_least 16 = .ok (.istore 5, 2) := by decide +kernel
theorem dX1_least_18 : decode cX1_least 18 = .ok (.iload 5, 2) := by decide +kernel
theorem dX1_least_20 : decode cX1_least 20 = .ok (.iload_n 1, 1) := by decide +kernel
theorem dX1_least_21 : decode cX1_least 21 = .ok (.if_icmp .ge 23, 3) := by decide +kernel
theorem dX1_least_24 : decode cX1_least 24 = .ok (.iload_n 3, 1) := by decide +kernel
theorem dX1_least_25 : decode cX1_least 25 = .ok (.iload_n 2, 1) := by decide +kernel
theorem dX1_least_26 : decode cX1_least 26 = .ok (.invokestatic 18, 3) := by decide +kernel
theorem dX1_least_29 : decode cX1_least 29 = .ok (.istore_n 3, 1) := by decide +kernel
theorem dX1_least_30 : decode cX1_least 30 = .ok (.iload 4, 2) := by decide +kernel
theorem dX1_least_32 : decode cX1_least 32 = .ok (.iload_n 3, 1) := by decide +kernel
theorem dX1_least_33 : decode cX1_least 33 = .ok (.invokestatic 21, 3) := by decide +kernel
theorem dX1_least_36 : decode cX1_least 36 = .ok (.istore 4, 2) := by decide +kernel
theorem dX1_least_38 : decode cX1_least 38 = .ok (.iinc 5 1, 3) := by decide +kernel
theorem dX1_least_41 : decode cX1_least 41 = .ok (.goto (-23), 3) := by decide +kernel
theorem dX1_least_44 : decode cX1_least 44 = .ok (.iload 4, 2) := by decide +kernel
theorem dX1_least_46 : decode cX1_least 46 = .ok (.ireturn, 1) := by decide +kernel
theorem dX1_isNew_0 : decode cX1_isNew 0 = .ok (.iload_n 0, 1) := by decide +kernel
theorem dX1_isNew_1 : decode cX1_isNew 1 = .ok (.iload_n 1, 1) := by decide +kernel
theorem dX1_isNew_2 : decode cX1_isNew 2 = .ok (.invokestatic 24, 3) := by decide +kernel
theorem dX1_isNew_5 : decode cX1_isNew 5 = .ok (.istore_n 2, 1) := by decide +kernel
theorem dX1_isNew_6 : decode cX1_isNew 6 = .ok (.iconst 1, 1) := by decide +kernel
theorem dX1_isNew_7 : decode cX1_isNew 7 = .ok (.istore_n 3, 1) := by decide +kernel
theorem dX1_isNew_8 : decode cX1_isNew 8 = .ok (.iload_n 3, 1) := by decide +kernel
theorem dX1_isNew_9 : decode cX1_isNew 9 = .ok (.iload_n 0, 1) := by decide +kernel
theorem dX1_isNew_10 : decode cX1_isNew 10 = .ok (.if_icmp .ge 20, 3) := by decide +kernel
theorem dX1_isNew_13 : decode cX1_isNew 13 = .ok (.iload_n 3, 1) := by decide +kernel
theorem dX1_isNew_14 : decode cX1_isNew 14 = .ok (.iload_n 1, 1) := by decide +kernel
theorem dX1_isNew_15 : decode cX1_isNew 15 = .ok (.invokestatic 24, 3) := by decide +kernel
theorem dX1_isNew_18 : decode cX1_isNew 18 = .ok (.iload_n 2, 1) := by decide +kernel
theorem dX1_isNew_19 : decode cX1_isNew 19 = .ok (.if_icmp .ne 5, 3) := by decide +kernel
theorem dX1_isNew_22 : decode cX1_isNew 22 = .ok (.iconst 0, 1) := by decide +kernel
theorem dX1_isNew_23 : decode cX1_isNew 23 = .ok (.ireturn, 1) := by decide +kernel
theorem dX1_isNew_24 : decode cX1_isNew 24 = .ok (.iinc 3 2, 3) := by decide +kernel
theorem dX1_isNew_27 : decode cX1_isNew 27 = .ok (.goto (-19), 3) := by decide +kernel
theorem dX1_isNew_30 : decode cX1_isNew 30 = .ok (.iconst 1, 1) := by decide +kernel
theorem dX1_isNew_31 : decode cX1_isNew 31 = .ok (.ireturn, 1) := by decide +kernel
theorem dX1_tailLength_0 : decode cX1_tailLength 0 = .ok (.iconst 0, 1) := by decide +kernel
theorem dX1_tailLength_1 : decode cX1_tailLength 1 = .ok (.istore_n 2, 1) := by decide +kernel
theorem dX1_tailLength_2 : decode cX1_tailLength 2 = .ok (.iconst 1, 1) := by decide +kernel
theorem dX1_tailLength_3 : decode cX1_tailLength 3 = .ok (.istore_n 3, 1) := by decide +kernel
theorem dX1_tailLength_4 : decode cX1_tailLength 4 = .ok (.iload_n 3, 1) := by decide +kernel
theorem dX1_tailLength_5 : decode cX1_tailLength 5 = .ok (.iconst 2, 1) := by decide +kernel
theorem dX1_tailLength_6 : decode cX1_tailLength 6 = .ok (.iload_n 1, 1) := by decide +kernel
theorem dX1_tailLength_7 : decode cX1_tailLength 7 = .ok (.imul, 1) := by decide +kernel
theorem dX1_tailLength_8 : decode cX1_tailLength 8 = .ok (.if_icmp .ge 25, 3) := by decide +kernel
theorem dX1_tailLength_11 : decode cX1_tailLength 11 = .ok (.iload_n 3, 1) := by decide +kernel
theorem dX1_tailLength_12 : decode cX1_tailLength 12 = .ok (.iload_n 0, 1) := by decide +kernel
theorem dX1_tailLength_13 : decode cX1_tailLength 13 = .ok (.invokestatic 27, 3) := by decide +kernel
theorem dX1_tailLength_16 : decode cX1_tailLength 16 = .ok (.ifCond .eq 11, 3) := by decide +kernel
theorem dX1_tailLength_19 : decode cX1_tailLength 19 = .ok (.iload_n 2, 1) := by decide +kernel
theorem dX1_tailLength_20 : decode cX1_tailLength 20 = .ok (.iload_n 3, 1) := by decide +kernel
theorem dX1_tailLength_21 : decode cX1_tailLength 21 = .ok (.iload_n 0, 1) := by decide +kernel
theorem dX1_tailLength_22 : decode cX1_tailLength 22 = .ok (.invokestatic 31, 3) := by decide +kernel
theorem dX1_tailLength_25 : decode cX1_tailLength 25 = .ok (.iadd, 1) := by decide +kernel
theorem dX1_tailLength_26 : decode cX1_tailLength 26 = .ok (.istore_n 2, 1) := by decide +kernel
theorem dX1_tailLength_27 : decode cX1_tailLength 27 = .ok (.iinc 3 2, 3) := by decide +kernel
theorem dX1_tailLength_30 : decode cX1_tailLength 30 = .ok (.goto (-26), 3) := by decide +kernel
theorem dX1_tailLength_33 : decode cX1_tailLength 33 = .ok (.iload_n 2, 1) := by decide +kernel
theorem dX1_tailLength_34 : decode cX1_tailLength 34 = .ok (.ireturn, 1) := by decide +kernel
theorem dX2_init_0 : decode cX2_init 0 = .ok (.aload_n 0, 1) := by decide +kernel
theorem dX2_init_1 : decode cX2_init 1 = .ok (.invokespecial 3, 3) := by decide +kernel
theorem dX2_init_4 : decode cX2_init 4 = .ok (.aload_n 0, 1) := by decide +kernel
theorem dX2_init_5 : decode cX2_init 5 = .ok (.sipush 8192, 3) := by decide +kernel
theorem dX2_init_8 : decode cX2_init 8 = .ok (.newarray .int, 2) := by decide +kernel
theorem dX2_init_10 : decode cX2_init 10 = .ok (.putfield 9, 3) := by decide +kernel
theorem dX2_init_13 : decode cX2_init 13 = .ok (.aload_n 0, 1) := by decide +kernel
theorem dX2_init_14 : decode cX2_init 14 = .ok (.sipush 8192, 3) := by decide +kernel
theorem dX2_init_17 : decode cX2_init 17 = .ok (.newarray .int, 2) := by decide +kernel
theorem dX2_init_19 : decode cX2_init 19 = .ok (.putfield 15, 3) := by decide +kernel
theorem dX2_init_22 : decode cX2_init 22 = .ok (.aload_n 0, 1) := by decide +kernel
theorem dX2_init_23 : decode cX2_init 23 = .ok (.bipush 14, 2) := by decide +kernel
theorem dX2_init_25 : decode cX2_init 25 = .ok (.newarray .int, 2) := by decide +kernel
theorem dX2_init_27 : decode cX2_init 27 = .ok (.putfield 18, 3) := by decide +kernel
theorem dX2_init_30 : decode cX2_init 30 = .ok (.return_, 1) := by decide +kernel
theorem dX2_become_0 : decode cX2_become 0 = .ok (.iload_n 1, 1) := by decide +kernel
theorem dX2_become_1 : decode cX2_become 1 = .ok (.aload_n 0, 1) := by decide +kernel
theorem dX2_become_2 : decode cX2_become 2 = .ok (.getfield 21, 3) := by decide +kernel
theorem dX2_become_5 : decode cX2_become 5 = .ok (.if_icmp .ne 4, 3) := by decide +kernel
theorem dX2_become_8 : decode cX2_become 8 = .ok (.return_, 1) := by decide +kernel
theorem dX2_become_9 : decode cX2_become 9 = .ok (.aload_n 0, 1) := by decide +kernel
theorem dX2_become_10 : decode cX2_become 10 = .ok (.iload_n 1, 1) := by decide +kernel
theorem dX2_become_11 : decode cX2_become 11 = .ok (.putfield 21, 3) := by decide +kernel
theorem dX2_become_14 : decode cX2_become 14 = .ok (.aload_n 0, 1) := by decide +kernel
theorem dX2_become_15 : decode cX2_become 15 = .ok (.iconst 1, 1) := by decide +kernel
theorem dX2_become_16 : decode cX2_become 16 = .ok (.iload_n 1, 1) := by decide +kernel
theorem dX2_become_17 : decode cX2_become 17 = .ok (.ishl, 1) := by decide +kernel
theorem dX2_become_18 : decode cX2_become 18 = .ok (.iconst 1, 1) := by decide +kernel
theorem dX2_become_19 : decode cX2_become 19 = .ok (.isub, 1) := by decide +kernel
theorem dX2_become_20 : decode cX2_become 20 = .ok (.putfield 25, 3) := by decide +kernel
theorem dX2_become_23 : decode cX2_become 23 = .ok (.getstatic 28, 3) := by decide +kernel
theorem dX2_become_26 : decode cX2_become 26 = .ok (.iload_n 1, 1) := by decide +kernel
theorem dX2_become_27 : decode cX2_become 27 = .ok (.iconst 3, 1) := by decide +kernel
theorem dX2_become_28 : decode cX2_become 28 = .ok (.isub, 1) := by decide +kernel
theorem dX2_become_29 : decode cX2_become 29 = .ok (.iaload, 1) := by decide +kernel
theorem dX2_become_30 : decode cX2_become 30 = .ok (.istore_n 2, 1) := by decide +kernel
theorem dX2_become_31 : decode cX2_become 31 = .ok (.iconst 1, 1) := by decide +kernel
theorem dX2_become_32 : decode cX2_become 32 = .ok (.istore_n 3, 1) := by decide +kernel
theorem dX2_become_33 : decode cX2_become 33 = .ok (.iconst 0, 1) := by decide +kernel
theorem dX2_become_34 : decode cX2_become 34 = .ok (.istore 4, 2) := by decide +kernel
theorem dX2_become_36 : decode cX2_become 36 = .ok (.iload 4, 2) := by decide +kernel
theorem dX2_become_38 : decode cX2_become 38 = .ok (.aload_n 0, 1) := by decide +kernel
theorem dX2_become_39 : decode cX2_become 39 = .ok (.getfield 25, 3) := by decide +kernel
theorem dX2_become_42 : decode cX2_become 42 = .ok (.if_icmp .ge 41, 3) := by decide +kernel
theorem dX2_become_45 : decode cX2_become 45 = .ok (.aload_n 0, 1) := by decide +kernel
theorem dX2_become_46 : decode cX2_become 46 = .ok (.getfield 9, 3) := by decide +kernel
theorem dX2_become_49 : decode cX2_become 49 = .ok (.iload 4, 2) := by decide +kernel
theorem dX2_become_51 : decode cX2_become 51 = .ok (.iload_n 3, 1) := by decide +kernel
theorem dX2_become_52 : decode cX2_become 52 = .ok (.iastore, 1) := by decide +kernel
theorem dX2_become_53 : decode cX2_become 53 = .ok (.aload_n 0, 1) := by decide +kernel
theorem dX2_become_54 : decode cX2_become 54 = .ok (.getfield 15, 3) := by decide +kernel
theorem dX2_become_57 : decode cX2_become 57 = .ok (.iload_n 3, 1) := by decide +kernel
theorem dX2_become_58 : decode cX2_become 58 = .ok (.iload 4, 2) := by decide +kernel
theorem dX2_become_60 : decode cX2_become 60 = .ok (.iastore, 1) := by decide +kernel
theorem dX2_become_61 : decode cX2_become 61 = .ok (.iload_n 3, 1) := by decide +kernel
theorem dX2_become_62 : decode cX2_become 62 = .ok (.iconst 1, 1) := by decide +kernel
theorem dX2_become_63 : decode cX2_become 63 = .ok (.ishl, 1) := by decide +kernel
theorem dX2_become_64 : decode cX2_become 64 = .ok (.istore_n 3, 1) := by decide +kernel
theorem dX2_become_65 : decode cX2_become 65 = .ok (.iload_n 3, 1) := by decide +kernel
theorem dX2_become_66 : decode cX2_become 66 = .ok (.aload_n 0, 1) := by decide +kernel
theorem dX2_become_67 : decode cX2_become 67 = .ok (.getfield 25, 3) := by decide +kernel
theorem dX2_become_70 : decode cX2_become 70 = .ok (.if_icmp .le 7, 3) := by decide +kernel
theorem dX2_become_73 : decode cX2_become 73 = .ok (.iload_n 3, 1) := by decide +kernel
theorem dX2_become_74 : decode cX2_become 74 = .ok (.iload_n 2, 1) := by decide +kernel
theorem dX2_become_75 : decode cX2_become 75 = .ok (.ixor, 1) := by decide +kernel
theorem dX2_become_76 : decode cX2_become 76 = .ok (.istore_n 3, 1) := by decide +kernel
theorem dX2_become_77 : decode cX2_become 77 = .ok (.iinc 4 1, 3) := by decide +kernel
theorem dX2_become_80 : decode cX2_become 80 = .ok (.goto (-44), 3) := by decide +kernel
theorem dX2_become_83 : decode cX2_become 83 = .ok (.return_, 1) := by decide +kernel
theorem dX2_has_0 : decode cX2_has 0 = .ok (.iload_n 1, 1) := by decide +kernel
theorem dX2_has_1 : decode cX2_has 1 = .ok (.ifCond .lt 15, 3) := by decide +kernel
theorem dX2_has_4 : decode cX2_has 4 = .ok (.iload_n 1, 1) := by decide +kernel
theorem dX2_has_5 : decode cX2_has 5 = .ok (.aload_n 0, 1) := by decide +kernel
theorem dX2_has_6 : decode cX2_has 6 = .ok (.getfield 25, 3) := by decide +kernel
theorem dX2_has_9 : decode cX2_has 9 = .ok (.if_icmp .gt 7, 3) := by decide +kernel
theorem dX2_has_12 : decode cX2_has 12 = .ok (.iconst 1, 1) := by decide +kernel
theorem dX2_has_13 : decode cX2_has 13 = .ok (.goto 4, 3) := by decide +kernel
theorem dX2_has_16 : decode cX2_has 16 = .ok (.iconst 0, 1) := by decide +kernel
theorem dX2_has_17 : decode cX2_has 17 = .ok (.ireturn, 1) := by decide +kernel
theorem dX2_powerOfA_0 : decode cX2_powerOfA 0 = .ok (.aload_n 0, 1) := by decide +kernel
theorem dX2_powerOfA_1 : decode cX2_powerOfA 1 = .ok (.getfield 9, 3) := by decide +kernel
theorem dX2_powerOfA_4 : decode cX2_powerOfA 4 = .ok (.iload_n 1, 1) := by decide +kernel
theorem dX2_powerOfA_5 : decode cX2_powerOfA 5 = .ok (.aload_n 0, 1) := by decide +kernel
theorem dX2_powerOfA_6 : decode cX2_powerOfA 6 = .ok (.getfield 25, 3) := by decide +kernel
theorem dX2_powerOfA_9 : decode cX2_powerOfA 9 = .ok (.invokestatic 31, 3) := by decide +kernel
theorem dX2_powerOfA_12 : decode cX2_powerOfA 12 = .ok (.iaload, 1) := by decide +kernel
theorem dX2_powerOfA_13 : decode cX2_powerOfA 13 = .ok (.ireturn, 1) := by decide +kernel
theorem dX2_product_0 : decode cX2_product 0 = .ok (.iload_n 1, 1) := by decide +kernel
theorem dX2_product_1 : decode cX2_product 1 = .ok (.ifCond .eq 7, 3) := by decide +kernel
theorem dX2_product_4 : decode cX2_product 4 = .ok (.iload_n 2, 1) := by decide +kernel
theorem dX2_product_5 : decode cX2_product 5 = .ok (.ifCond .ne 5, 3) := by decide +kernel
theorem dX2_product_8 : decode cX2_product 8 = .ok (.iconst 0, 1) := by decide +kernel
theorem dX2_product_9 : decode cX2_product 9 = .ok (.ireturn, 1) := by decide +kernel
theorem dX2_product_10 : decode cX2_product 10 = .ok (.aload_n 0, 1) := by decide +kernel
theorem dX2_product_11 : decode cX2_product 11 = .ok (.getfield 15, 3) := by decide +kernel
theorem dX2_product_14 : decode cX2_product 14 = .ok (.iload_n 1, 1) := by decide +kernel
theorem dX2_product_15 : decode cX2_product 15 = .ok (.iaload, 1) := by decide +kernel
theorem dX2_product_16 : decode cX2_product 16 = .ok (.aload_n 0, 1) := by decide +kernel
theorem dX2_product_17 : decode cX2_product 17 = .ok (.getfield 15, 3) := by decide +kernel
theorem dX2_product_20 : decode cX2_product 20 = .ok (.iload_n 2, 1) := by decide +kernel
theorem dX2_product_21 : decode cX2_product 21 = .ok (.iaload, 1) := by decide +kernel
theorem dX2_product_22 : decode cX2_product 22 = .ok (.iadd, 1) := by decide +kernel
theorem dX2_product_23 : decode cX2_product 23 = .ok (.istore_n 3, 1) := by decide +kernel
theorem dX2_product_24 : decode cX2_product 24 = .ok (.aload_n 0, 1) := by decide +kernel
theorem dX2_product_25 : decode cX2_product 25 = .ok (.getfield 9, 3) := by decide +kernel
theorem dX2_product_28 : decode cX2_product 28 = .ok (.iload_n 3, 1) := by decide +kernel
theorem dX2_product_29 : decode cX2_product 29 = .ok (.aload_n 0, 1) := by decide +kernel
theorem dX2_product_30 : decode cX2_product 30 = .ok (.getfield 25, 3) := by decide +kernel
theorem dX2_product_33 : decode cX2_product 33 = .ok (.if_icmp .lt 12, 3) := by decide +kernel
theorem dX2_product_36 : decode cX2_product 36 = .ok (.iload_n 3, 1) := by decide +kernel
theorem dX2_product_37 : decode cX2_product 37 = .ok (.aload_n 0, 1) := by decide +kernel
theorem dX2_product_38 : decode cX2_product 38 = .ok (.getfield 25, 3) := by decide +kernel
theorem dX2_product_41 : decode cX2_product 41 = .ok (.isub, 1) := by decide +kernel
theorem dX2_product_42 : decode cX2_product 42 = .ok (.goto 4, 3) := by decide +kernel
theorem dX2_product_45 : decode cX2_product 45 = .ok (.iload_n 3, 1) := by decide +kernel
theorem dX2_product_46 : decode cX2_product 46 = .ok (.iaload, 1) := by decide +kernel
theorem dX2_product_47 : decode cX2_product 47 = .ok (.ireturn, 1) := by decide +kernel
theorem dX2_reciprocal_0 : decode cX2_reciprocal 0 = .ok (.aload_n 0, 1) := by decide +kernel
theorem dX2_reciprocal_1 : decode cX2_reciprocal 1 = .ok (.getfield 15, 3) := by decide +kernel
theorem dX2_reciprocal_4 : decode cX2_reciprocal 4 = .ok (.iload_n 1, 1) := by decide +kernel
theorem dX2_reciprocal_5 : decode cX2_reciprocal 5 = .ok (.iaload, 1) := by decide +kernel
theorem dX2_reciprocal_6 : decode cX2_reciprocal 6 = .ok (.istore_n 2, 1) := by decide +kernel
theorem dX2_reciprocal_7 : decode cX2_reciprocal 7 = .ok (.aload_n 0, 1) := by decide +kernel
theorem dX2_reciprocal_8 : decode cX2_reciprocal 8 = .ok (.getfield 9, 3) := by decide +kernel
theorem dX2_reciprocal_11 : decode cX2_reciprocal 11 = .ok (.iload_n 2, 1) := by decide +kernel
theorem dX2_reciprocal_12 : decode cX2_reciprocal 12 = .ok (.ifCond .ne 7, 3) := by decide +kernel
theorem dX2_reciprocal_15 : decode cX2_reciprocal 15 = .ok (.iconst 0, 1) := by decide +kernel
theorem dX2_reciprocal_16 : decode cX2_reciprocal 16 = .ok (.goto 9, 3) := by decide +kernel
theorem dX2_reciprocal_19 : decode cX2_reciprocal 19 = .ok (.aload_n 0, 1) := by decide +kernel
theorem dX2_reciprocal_20 : decode cX2_reciprocal 20 = .ok (.getfield 25, 3) := by decide +kernel
theorem dX2_reciprocal_23 : decode cX2_reciprocal 23 = .ok (.iload_n 2, 1) := by decide +kernel
theorem dX2_reciprocal_24 : decode cX2_reciprocal 24 = .ok (.isub, 1) := by decide +kernel
theorem dX2_reciprocal_25 : decode cX2_reciprocal 25 = .ok (.iaload, 1) := by decide +kernel
theorem dX2_reciprocal_26 : decode cX2_reciprocal 26 = .ok (.ireturn, 1) := by decide +kernel
theorem dX2_minimalPolynomial_0 : decode cX2_minimalPolynomial 0 = .ok (.iload_n 1, 1) := by decide +kernel
theorem dX2_minimalPolynomial_1 : decode cX2_minimalPolynomial 1 = .ok (.aload_n 0, 1) := by decide +kernel
theorem dX2_minimalPolynomial_2 : decode cX2_minimalPolynomial 2 = .ok (.getfield 21, 3) := by decide +kernel
theorem dX2_minimalPolynomial_5 : decode cX2_minimalPolynomial 5 = .ok (.invokestatic 37, 3) := by decide +kernel
theorem dX2_minimalPolynomial_8 : decode cX2_minimalPolynomial 8 = .ok (.istore_n 2, 1) := by decide +kernel
theorem dX2_minimalPolynomial_9 : decode cX2_minimalPolynomial 9 = .ok (.aload_n 0, 1) := by decide +kernel
theorem dX2_minimalPolynomial_10 : decode cX2_minimalPolynomial 10 = .ok (.getfield 18, 3) := by decide +kernel
theorem dX2_minimalPolynomial_13 : decode cX2_minimalPolynomial 13 = .ok (.iconst 0, 1) := by decide +kernel
theorem dX2_minimalPolynomial_14 : decode cX2_minimalPolynomial 14 = .ok (.invokestatic 40, 3) := by decide +kernel
theorem dX2_minimalPolynomial_17 : decode cX2_minimalPolynomial 17 = .ok (.aload_n 0, 1) := by decide +kernel
theorem dX2_minimalPolynomial_18 : decode cX2_minimalPolynomial 18 = .ok (.getfield 18, 3) := by decide +kernel
theorem dX2_minimalPolynomial_21 : decode cX2_minimalPolynomial 21 = .ok (.iconst 0, 1) := by decide +kernel
theorem dX2_minimalPolynomial_22 : decode cX2_minimalPolynomial 22 = .ok (.iconst 1, 1) := by decide +kernel
theorem dX2_minimalPolynomial_23 : decode cX2_minimalPolynomial 23 = .ok (.iastore, 1) := by decide +kernel
theorem dX2_minimalPolynomial_24 : decode cX2_minimalPolynomial 24 = .ok (.iload_n 1, 1) := by decide +kernel
theorem dX2_minimalPolynomial_25 : decode cX2_minimalPolynomial 25 = .ok (.aload_n 0, 1) := by decide +kernel
theorem dX2_minimalPolynomial_26 : decode cX2_minimalPolynomial 26 = .ok (.getfield 25, 3) := by decide +kernel
theorem dX2_minimalPolynomial_29 : decode cX2_minimalPolynomial 29 = .ok (.invokestatic 31, 3) := by decide +kernel
theorem dX2_minimalPolynomial_32 : decode cX2_minimalPolynomial 32 = .ok (.istore_n 3, 1) := by decide +kernel
theorem dX2_minimalPolynomial_33 : decode cX2_minimalPolynomial 33 = .ok (.iconst 0, 1) := by decide +kernel
theorem dX2_minimalPolynomial_34 : decode cX2_minimalPolynomial 34 = .ok (.istore 4, 2) := by decide +kernel
theorem dX2_minimalPolynomial_36 : decode cX2_minimalPolynomial 36 = .ok (.iload 4, 2) := by decide +kernel
theorem dX2_minimalPolynomial_38 : decode cX2_minimalPolynomial 38 = .ok (.iload_n 2, 1) := by decide +kernel
theorem dX2_minimalPolynomial_39 : decode cX2_minimalPolynomial 39 = .ok (.if_icmp .ge 30, 3) := by decide +kernel
theorem dX2_minimalPolynomial_42 : decode cX2_minimalPolynomial 42 = .ok (.aload_n 0, 1) := by decide +kernel
theorem dX2_minimalPolynomial_43 : decode cX2_minimalPolynomial 43 = .ok (.aload_n 0, 1) := by decide +kernel
theorem dX2_minimalPolynomial_44 : decode cX2_minimalPolynomial 44 = .ok (.getfield 9, 3) := by decide +kernel
theorem dX2_minimalPolynomial_47 : decode cX2_minimalPolynomial 47 = .ok (.iload_n 3, 1) := by decide +kernel
theorem dX2_minimalPolynomial_48 : decode cX2_minimalPolynomial 48 = .ok (.iaload, 1) := by decide +kernel
theorem dX2_minimalPolynomial_49 : decode cX2_minimalPolynomial 49 = .ok (.iload 4, 2) := by decide +kernel
theorem dX2_minimalPolynomial_51 : decode cX2_minimalPolynomial 51 = .ok (.invokevirtual 46, 3) := by decide +kernel
theorem dX2_minimalPolynomial_54 : decode cX2_minimalPolynomial 54 = .ok (.iload_n 3, 1) := by decide +kernel
theorem dX2_minimalPolynomial_55 : decode cX2_minimalPolynomial 55 = .ok (.aload_n 0, 1) := by decide +kernel
theorem dX2_minimalPolynomial_56 : decode cX2_minimalPolynomial 56 = .ok (.getfield 25, 3) := by decide +kernel
theorem dX2_minimalPolynomial_59 : decode cX2_minimalPolynomial 59 = .ok (.invokestatic 50, 3) := by decide +kernel
theorem dX2_minimalPolynomial_62 : decode cX2_minimalPolynomial 62 = .ok (.istore_n 3, 1) := by decide +kernel
theorem dX2_minimalPolynomial_63 : decode cX2_minimalPolynomial 63 = .ok (.iinc 4 1, 3) := by decide +kernel
theorem dX2_minimalPolynomial_66 : decode cX2_minimalPolynomial 66 = .ok (.goto (-30), 3) := by decide +kernel
theorem dX2_minimalPolynomial_69 : decode cX2_minimalPolynomial 69 = .ok (.iconst 0, 1) := by decide +kernel
theorem dX2_minimalPolynomial_70 : decode cX2_minimalPolynomial 70 = .ok (.istore 4, 2) := by decide +kernel
theorem dX2_minimalPolynomial_72 : decode cX2_minimalPolynomial 72 = .ok (.iconst 0, 1) := by decide +kernel
theorem dX2_minimalPolynomial_73 : decode cX2_minimalPolynomial 73 = .ok (.istore 5, 2) := by decide +kernel
theorem dX2_minimalPolynomial_75 : decode cX2_minimalPolynomial 75 = .ok (.iload 5, 2) := by decide +kernel
theorem dX2_minimalPolynomial_77 : decode cX2_minimalPolynomial 77 = .ok (.iload_n 2, 1) := by decide +kernel
theorem dX2_minimalPolynomial_78 : decode cX2_minimalPolynomial 78 = .ok (.if_icmp .gt 24, 3) := by decide +kernel
theorem dX2_minimalPolynomial_81 : decode cX2_minimalPolynomial 81 = .ok (.iload 4, 2) := by decide +kernel
theorem dX2_minimalPolynomial_83 : decode cX2_minimalPolynomial 83 = .ok (.aload_n 0, 1) := by decide +kernel
theorem dX2_minimalPolynomial_84 : decode cX2_minimalPolynomial 84 = .ok (.getfield 18, 3) := by decide +kernel
theorem dX2_minimalPolynomial_87 : decode cX2_minimalPolynomial 87 = .ok (.iload 5, 2) := by decide +kernel
theorem dX2_minimalPolynomial_89 : decode cX2_minimalPolynomial 89 = .ok (.iaload, 1) := by decide +kernel
theorem dX2_minimalPolynomial_90 : decode cX2_minimalPolynomial 90 = .ok (.iload 5, 2) := by decide +kernel
theorem dX2_minimalPolynomial_92 : decode cX2_minimalPolynomial 92 = .ok (.ishl, 1) := by decide +kernel
theorem dX2_minimalPolynomial_93 : decode cX2_minimalPolynomial 93 = .ok (.ior, 1) := by decide +kernel
theorem dX2_minimalPolynomial_94 : decode cX2_minimalPolynomial 94 = .ok (.istore 4, 2) := by decide +kernel
theorem dX2_minimalPolynomial_96 : decode cX2_minimalPolynomial 96 = .ok (.iinc 5 1, 3) := by decide +kernel
theorem dX2_minimalPolynomial_99 : decode cX2_minimalPolynomial 99 = .ok (.goto (-24), 3) := by decide +kernel
theorem dX2_minimalPolynomial_102 : decode cX2_minimalPolynomial 102 = .ok (.iload 4, 2) := by decide +kernel
theorem dX2_minimalPolynomial_104 : decode cX2_minimalPolynomial 104 = .ok (.ireturn, 1) := by decide +kernel
theorem dX2_multiplyByRoot_0 : decode cX2_multiplyByRoot 0 = .ok (.iload_n 2, 1) := by decide +kernel
theorem dX2_multiplyByRoot_1 : decode cX2_multiplyByRoot 1 = .ok (.iconst 1, 1) := by decide +kernel
theorem dX2_multiplyByRoot_2 : decode cX2_multiplyByRoot 2 = .ok (.iadd, 1) := by decide +kernel
theorem dX2_multiplyByRoot_3 : decode cX2_multiplyByRoot 3 = .ok (.istore_n 3, 1) := by decide +kernel
theorem dX2_multiplyByRoot_4 : decode cX2_multiplyByRoot 4 = .ok (.iload_n 3, 1) := by decide +kernel
theorem dX2_multiplyByRoot_5 : decode cX2_multiplyByRoot 5 = .ok (.ifCond .le 35, 3) := by decide +kernel
theorem dX2_multiplyByRoot_8 : decode cX2_multiplyByRoot 8 = .ok (.aload_n 0, 1) := by decide +kernel
theorem dX2_multiplyByRoot_9 : decode cX2_multiplyByRoot 9 = .ok (.getfield 18, 3) := by decide +kernel
theorem dX2_multiplyByRoot_12 : decode cX2_multiplyByRoot 12 = .ok (.iload_n 3, 1) := by decide +kernel
theorem dX2_multiplyByRoot_13 : decode cX2_multiplyByRoot 13 = .ok (.aload_n 0, 1) := by decide +kernel
theorem dX2_multiplyByRoot_14 : decode cX2_multiplyByRoot 14 = .ok (.getfield 18, 3) := by decide +kernel
theorem dX2_multiplyByRoot_17 : decode cX2_multiplyByRoot 17 = .ok (.iload_n 3, 1) := by decide +kernel
theorem dX2_multiplyByRoot_18 : decode cX2_multiplyByRoot 18 = .ok (.iconst 1, 1) := by decide +kernel
theorem dX2_multiplyByRoot_19 : decode cX2_multiplyByRoot 19 = .ok (.isub, 1) := by decide +kernel
theorem dX2_multiplyByRoot_20 : decode cX2_multiplyByRoot 20 = .ok (.iaload, 1) := by decide +kernel
theorem dX2_multiplyByRoot_21 : decode cX2_multiplyByRoot 21 = .ok (.aload_n 0, 1) := by decide +kernel
theorem dX2_multiplyByRoot_22 : decode cX2_multiplyByRoot 22 = .ok (.aload_n 0, 1) := by decide +kernel
theorem dX2_multiplyByRoot_23 : decode cX2_multiplyByRoot 23 = .ok (.getfield 18, 3) := by decide +kernel
theorem dX2_multiplyByRoot_26 : decode cX2_multiplyByRoot 26 = .ok (.iload_n 3, 1) := by decide +kernel
theorem dX2_multiplyByRoot_27 : decode cX2_multiplyByRoot 27 = .ok (.iaload, 1) := by decide +kernel
theorem dX2_multiplyByRoot_28 : decode cX2_multiplyByRoot 28 = .ok (.iload_n 1, 1) := by decide +kernel
theorem dX2_multiplyByRoot_29 : decode cX2_multiplyByRoot 29 = .ok (.invokevirtual 53, 3) := by decide +kernel
theorem dX2_multiplyByRoot_32 : decode cX2_multiplyByRoot 32 = .ok (.ixor, 1) := by decide +kernel
theorem dX2_multiplyByRoot_33 : decode cX2_multiplyByRoot 33 = .ok (.iastore, 1) := by decide +kernel
theorem dX2_multiplyByRoot_34 : decode cX2_multiplyByRoot 34 = .ok (.iinc 3 (-1), 3) := by decide +kernel
theorem dX2_multiplyByRoot_37 : decode cX2_multiplyByRoot 37 = .ok (.goto (-33), 3) := by decide +kernel
theorem dX2_multiplyByRoot_40 : decode cX2_multiplyByRoot 40 = .ok (.aload_n 0, 1) := by decide +kernel
theorem dX2_multiplyByRoot_41 : decode cX2_multiplyByRoot 41 = .ok (.getfield 18, 3) := by decide +kernel
theorem dX2_multiplyByRoot_44 : decode cX2_multiplyByRoot 44 = .ok (.iconst 0, 1) := by decide +kernel
theorem dX2_multiplyByRoot_45 : decode cX2_multiplyByRoot 45 = .ok (.aload_n 0, 1) := by decide +kernel
theorem dX2_multiplyByRoot_46 : decode cX2_multiplyByRoot 46 = .ok (.aload_n 0, 1) := by decide +kernel
theorem dX2_multiplyByRoot_47 : decode cX2_multiplyByRoot 47 = .ok (.getfield 18, 3) := by decide +kernel
theorem dX2_multiplyByRoot_50 : decode cX2_multiplyByRoot 50 = .ok (.iconst 0, 1) := by decide +kernel
theorem dX2_multiplyByRoot_51 : decode cX2_multiplyByRoot 51 = .ok (.iaload, 1) := by decide +kernel
theorem dX2_multiplyByRoot_52 : decode cX2_multiplyByRoot 52 = .ok (.iload_n 1, 1) := by decide +kernel
theorem dX2_multiplyByRoot_53 : decode cX2_multiplyByRoot 53 = .ok (.invokevirtual 53, 3) := by decide +kernel
theorem dX2_multiplyByRoot_56 : decode cX2_multiplyByRoot 56 = .ok (.iastore, 1) := by decide +kernel
theorem dX2_multiplyByRoot_57 : decode cX2_multiplyByRoot 57 = .ok (.return_, 1) := by decide +kernel
theorem dX4_init_0 : decode cX4_init 0 = .ok (.aload_n 0, 1) := by decide +kernel
theorem dX4_init_1 : decode cX4_init 1 = .ok (.invokespecial 3, 3) := by decide +kernel
theorem dX4_init_4 : decode cX4_init 4 = .ok (.aload_n 0, 1) := by decide +kernel
theorem dX4_init_5 : decode cX4_init 5 = .ok (.new 9, 3) := by decide +kernel
theorem dX4_init_8 : decode cX4_init 8 = .ok (.dup, 1) := by decide +kernel
theorem dX4_init_9 : decode cX4_init 9 = .ok (.invokespecial 11, 3) := by decide +kernel
theorem dX4_init_12 : decode cX4_init 12 = .ok (.putfield 12, 3) := by decide +kernel
theorem dX4_init_15 : decode cX4_init 15 = .ok (.aload_n 0, 1) := by decide +kernel
theorem dX4_init_16 : decode cX4_init 16 = .ok (.new 9, 3) := by decide +kernel
theorem dX4_init_19 : decode cX4_init 19 = .ok (.dup, 1) := by decide +kernel
theorem dX4_init_20 : decode cX4_init 20 = .ok (.invokespecial 11, 3) := by decide +kernel
theorem dX4_init_23 : decode cX4_init 23 = .ok (.putfield 18, 3) := by decide +kernel
theorem dX4_init_26 : decode cX4_init 26 = .ok (.aload_n 0, 1) := by decide +kernel
theorem dX4_init_27 : decode cX4_init 27 = .ok (.new 9, 3) := by decide +kernel
theorem dX4_init_30 : decode cX4_init 30 = .ok (.dup, 1) := by decide +kernel
theorem dX4_init_31 : decode cX4_init 31 = .ok (.invokespecial 11, 3) := by decide +kernel
theorem dX4_init_34 : decode cX4_init 34 = .ok (.putfield 21, 3) := by decide +kernel
theorem dX4_init_37 : decode cX4_init 37 = .ok (.return_, 1) := by decide +kernel
theorem dX4_renew_0 : decode cX4_renew 0 = .ok (.aload_n 0, 1) := by decide +kernel
theorem dX4_renew_1 : decode cX4_renew 1 = .ok (.getfield 18, 3) := by decide +kernel
theorem dX4_renew_4 : decode cX4_renew 4 = .ok (.invokevirtual 24, 3) := by decide +kernel
theorem dX4_renew_7 : decode cX4_renew 7 = .ok (.aload_n 0, 1) := by decide +kernel
theorem dX4_renew_8 : decode cX4_renew 8 = .ok (.getfield 21, 3) := by decide +kernel
theorem dX4_renew_11 : decode cX4_renew 11 = .ok (.invokevirtual 24, 3) := by decide +kernel
theorem dX4_renew_14 : decode cX4_renew 14 = .ok (.aload_n 0, 1) := by decide +kernel
theorem dX4_renew_15 : decode cX4_renew 15 = .ok (.getfield 12, 3) := by decide +kernel
theorem dX4_renew_18 : decode cX4_renew 18 = .ok (.aload_n 1, 1) := by decide +kernel
theorem dX4_renew_19 : decode cX4_renew 19 = .ok (.invokevirtual 27, 3) := by decide +kernel
theorem dX4_renew_22 : decode cX4_renew 22 = .ok (.aload_n 0, 1) := by decide +kernel
theorem dX4_renew_23 : decode cX4_renew 23 = .ok (.iconst 0, 1) := by decide +kernel
theorem dX4_renew_24 : decode cX4_renew 24 = .ok (.putfield 31, 3) := by decide +kernel
theorem dX4_renew_27 : decode cX4_renew 27 = .ok (.return_, 1) := by decide +kernel
theorem dX4_wipe_0 : decode cX4_wipe 0 = .ok (.iconst 0, 1) := by decide +kernel
theorem dX4_wipe_1 : decode cX4_wipe 1 = .ok (.istore_n 2, 1) := by decide +kernel
theorem dX4_wipe_2 : decode cX4_wipe 2 = .ok (.iload_n 2, 1) := by decide +kernel
theorem dX4_wipe_3 : decode cX4_wipe 3 = .ok (.bipush 34, 2) := by decide +kernel
theorem dX4_wipe_5 : decode cX4_wipe 5 = .ok (.if_icmp .ge 41, 3) := by decide +kernel
theorem dX4_wipe_8 : decode cX4_wipe 8 = .ok (.aload_n 0, 1) := by decide +kernel
theorem dX4_wipe_9 : decode cX4_wipe 9 = .ok (.getfield 12, 3) := by decide +kernel
theorem dX4_wipe_12 : decode cX4_wipe 12 = .ok (.getfield 35, 3) := by decide +kernel
theorem dX4_wipe_15 : decode cX4_wipe 15 = .ok (.iload_n 2, 1) := by decide +kernel
theorem dX4_wipe_16 : decode cX4_wipe 16 = .ok (.dup2, 1) := by decide +kernel
theorem dX4_wipe_17 : decode cX4_wipe 17 = .ok (.laload, 1) := by decide +kernel
theorem dX4_wipe_18 : decode cX4_wipe 18 = .ok (.aload_n 1, 1) := by decide +kernel
theorem dX4_wipe_19 : decode cX4_wipe 19 = .ok (.getfield 35, 3) := by decide +kernel
theorem dX4_wipe_22 : decode cX4_wipe 22 = .ok (.iload_n 2, 1) := by decide +kernel
theorem dX4_wipe_23 : decode cX4_wipe 23 = .ok (.laload, 1) := by decide +kernel
theorem dX4_wipe_24 : decode cX4_wipe 24 = .ok (.aload_n 0, 1) := by decide +kernel
theorem dX4_wipe_25 : decode cX4_wipe 25 = .ok (.getfield 18, 3) := by decide +kernel
theorem dX4_wipe_28 : decode cX4_wipe 28 = .ok (.getfield 35, 3) := by decide +kernel
theorem dX4_wipe_31 : decode cX4_wipe 31 = .ok (.iload_n 2, 1) := by decide +kernel
theorem dX4_wipe_32 : decode cX4_wipe 32 = .ok (.laload, 1) := by decide +kernel
theorem dX4_wipe_33 : decode cX4_wipe 33 = .ok (.ldc2_w 39, 3) := by decide +kernel
theorem dX4_wipe_36 : decode cX4_wipe 36 = .ok (.lxor, 1) := by decide +kernel
theorem dX4_wipe_37 : decode cX4_wipe 37 = .ok (.land, 1) := by decide +kernel
theorem dX4_wipe_38 : decode cX4_wipe 38 = .ok (.lor, 1) := by decide +kernel
theorem dX4_wipe_39 : decode cX4_wipe 39 = .ok (.lastore, 1) := by decide +kernel
theorem dX4_wipe_40 : decode cX4_wipe 40 = .ok (.iinc 2 1, 3) := by decide +kernel
theorem dX4_wipe_43 : decode cX4_wipe 43 = .ok (.goto (-41), 3) := by decide +kernel
theorem dX4_wipe_46 : decode cX4_wipe 46 = .ok (.aload_n 0, 1) := by decide +kernel
theorem dX4_wipe_47 : decode cX4_wipe 47 = .ok (.getfield 21, 3) := by decide +kernel
theorem dX4_wipe_50 : decode cX4_wipe 50 = .ok (.invokevirtual 24, 3) := by decide +kernel
theorem dX4_wipe_53 : decode cX4_wipe 53 = .ok (.aload_n 0, 1) := by decide +kernel
theorem dX4_wipe_54 : decode cX4_wipe 54 = .ok (.dup, 1) := by decide +kernel
theorem dX4_wipe_55 : decode cX4_wipe 55 = .ok (.getfield 31, 3) := by decide +kernel
theorem dX4_wipe_58 : decode cX4_wipe 58 = .ok (.iconst 1, 1) := by decide +kernel
theorem dX4_wipe_59 : decode cX4_wipe 59 = .ok (.iadd, 1) := by decide +kernel
theorem dX4_wipe_60 : decode cX4_wipe 60 = .ok (.putfield 31, 3) := by decide +kernel
theorem dX4_wipe_63 : decode cX4_wipe 63 = .ok (.return_, 1) := by decide +kernel
theorem dX4_program_0 : decode cX4_program 0 = .ok (.iconst 0, 1) := by decide +kernel
theorem dX4_program_1 : decode cX4_program 1 = .ok (.istore_n 2, 1) := by decide +kernel
theorem dX4_program_2 : decode cX4_program 2 = .ok (.iload_n 2, 1) := by decide +kernel
theorem dX4_program_3 : decode cX4_program 3 = .ok (.bipush 34, 2) := by decide +kernel
theorem dX4_program_5 : decode cX4_program 5 = .ok (.if_icmp .ge 37, 3) := by decide +kernel
theorem dX4_program_8 : decode cX4_program 8 = .ok (.aload_n 0, 1) := by decide +kernel
theorem dX4_program_9 : decode cX4_program 9 = .ok (.getfield 12, 3) := by decide +kernel
theorem dX4_program_12 : decode cX4_program 12 = .ok (.getfield 35, 3) := by decide +kernel
theorem dX4_program_15 : decode cX4_program 15 = .ok (.iload_n 2, 1) := by decide +kernel
theorem dX4_program_16 : decode cX4_program 16 = .ok (.dup2, 1) := by decide +kernel
theorem dX4_program_17 : decode cX4_program 17 = .ok (.laload, 1) := by decide +kernel
theorem dX4_program_18 : decode cX4_program 18 = .ok (.aload_n 1, 1) := by decide +kernel
theorem dX4_program_19 : decode cX4_program 19 = .ok (.getfield 35, 3) := by decide +kernel
theorem dX4_program_22 : decode cX4_program 22 = .ok (.iload_n 2, 1) := by decide +kernel
theorem dX4_program_23 : decode cX4_program 23 = .ok (.laload, 1) := by decide +kernel
theorem dX4_program_24 : decode cX4_program 24 = .ok (.aload_n 0, 1) := by decide +kernel
theorem dX4_program_25 : decode cX4_program 25 = .ok (.getfield 18, 3) := by decide +kernel
theorem dX4_program_28 : decode cX4_program 28 = .ok (.getfield 35, 3) := by decide +kernel
theorem dX4_program_31 : decode cX4_program 31 = .ok (.iload_n 2, 1) := by decide +kernel
theorem dX4_program_32 : decode cX4_program 32 = .ok (.laload, 1) := by decide +kernel
theorem dX4_program_33 : decode cX4_program 33 = .ok (.lor, 1) := by decide +kernel
theorem dX4_program_34 : decode cX4_program 34 = .ok (.land, 1) := by decide +kernel
theorem dX4_program_35 : decode cX4_program 35 = .ok (.lastore, 1) := by decide +kernel
theorem dX4_program_36 : decode cX4_program 36 = .ok (.iinc 2 1, 3) := by decide +kernel
theorem dX4_program_39 : decode cX4_program 39 = .ok (.goto (-37), 3) := by decide +kernel
theorem dX4_program_42 : decode cX4_program 42 = .ok (.aload_n 0, 1) := by decide +kernel
theorem dX4_program_43 : decode cX4_program 43 = .ok (.getfield 12, 3) := by decide +kernel
theorem dX4_program_46 : decode cX4_program 46 = .ok (.aload_n 1, 1) := by decide +kernel
theorem dX4_program_47 : decode cX4_program 47 = .ok (.invokevirtual 41, 3) := by decide +kernel
theorem dX4_program_50 : decode cX4_program 50 = .ok (.ireturn, 1) := by decide +kernel
theorem dX4_turn_0 : decode cX4_turn 0 = .ok (.aload_n 0, 1) := by decide +kernel
theorem dX4_turn_1 : decode cX4_turn 1 = .ok (.getfield 18, 3) := by decide +kernel
theorem dX4_turn_4 : decode cX4_turn 4 = .ok (.iload_n 1, 1) := by decide +kernel
theorem dX4_turn_5 : decode cX4_turn 5 = .ok (.invokevirtual 45, 3) := by decide +kernel
theorem dX4_turn_8 : decode cX4_turn 8 = .ok (.ifCond .ne 21, 3) := by decide +kernel
theorem dX4_turn_11 : decode cX4_turn 11 = .ok (.aload_n 0, 1) := by decide +kernel
theorem dX4_turn_12 : decode cX4_turn 12 = .ok (.getfield 12, 3) := by decide +kernel
theorem dX4_turn_15 : decode cX4_turn 15 = .ok (.iload_n 1, 1) := by decide +kernel
theorem dX4_turn_16 : decode cX4_turn 16 = .ok (.iconst 1, 1) := by decide +kernel
theorem dX4_turn_17 : decode cX4_turn 17 = .ok (.aload_n 0, 1) := by decide +kernel
theorem dX4_turn_18 : decode cX4_turn 18 = .ok (.getfield 12, 3) := by decide +kernel
theorem dX4_turn_21 : decode cX4_turn 21 = .ok (.iload_n 1, 1) := by decide +kernel
theorem dX4_turn_22 : decode cX4_turn 22 = .ok (.invokevirtual 45, 3) := by decide +kernel
theorem dX4_turn_25 : decode cX4_turn 25 = .ok (.isub, 1) := by decide +kernel
theorem dX4_turn_26 : decode cX4_turn 26 = .ok (.invokevirtual 49, 3) := by decide +kernel
theorem dX4_turn_29 : decode cX4_turn 29 = .ok (.aload_n 0, 1) := by decide +kernel
theorem dX4_turn_30 : decode cX4_turn 30 = .ok (.getfield 12, 3) := by decide +kernel
theorem dX4_turn_33 : decode cX4_turn 33 = .ok (.iload_n 1, 1) := by decide +kernel
theorem dX4_turn_34 : decode cX4_turn 34 = .ok (.invokevirtual 45, 3) := by decide +kernel
theorem dX4_turn_37 : decode cX4_turn 37 = .ok (.ireturn, 1) := by decide +kernel
theorem dX4_hold_0 : decode cX4_hold 0 = .ok (.iload_n 2, 1) := by decide +kernel
theorem dX4_hold_1 : decode cX4_hold 1 = .ok (.iconst (-1), 1) := by decide +kernel
theorem dX4_hold_2 : decode cX4_hold 2 = .ok (.if_icmp .ne 15, 3) := by decide +kernel
theorem dX4_hold_5 : decode cX4_hold 5 = .ok (.aload_n 0, 1) := by decide +kernel
theorem dX4_hold_6 : decode cX4_hold 6 = .ok (.getfield 18, 3) := by decide +kernel
theorem dX4_hold_9 : decode cX4_hold 9 = .ok (.iload_n 1, 1) := by decide +kernel
theorem dX4_hold_10 : decode cX4_hold 10 = .ok (.iconst 0, 1) := by decide +kernel
theorem dX4_hold_11 : decode cX4_hold 11 = .ok (.invokevirtual 49, 3) := by decide +kernel
theorem dX4_hold_14 : decode cX4_hold 14 = .ok (.goto 21, 3) := by decide +kernel
theorem dX4_hold_17 : decode cX4_hold 17 = .ok (.aload_n 0, 1) := by decide +kernel
theorem dX4_hold_18 : decode cX4_hold 18 = .ok (.getfield 18, 3) := by decide +kernel
theorem dX4_hold_21 : decode cX4_hold 21 = .ok (.iload_n 1, 1) := by decide +kernel
theorem dX4_hold_22 : decode cX4_hold 22 = .ok (.iconst 1, 1) := by decide +kernel
theorem dX4_hold_23 : decode cX4_hold 23 = .ok (.invokevirtual 49, 3) := by decide +kernel
theorem dX4_hold_26 : decode cX4_hold 26 = .ok (.aload_n 0, 1) := by decide +kernel
theorem dX4_hold_27 : decode cX4_hold 27 = .ok (.getfield 12, 3) := by decide +kernel
theorem dX4_hold_30 : decode cX4_hold 30 = .ok (.iload_n 1, 1) := by decide +kernel
theorem dX4_hold_31 : decode cX4_hold 31 = .ok (.iload_n 2, 1) := by decide +kernel
theorem dX4_hold_32 : decode cX4_hold 32 = .ok (.invokevirtual 49, 3) := by decide +kernel
theorem dX4_hold_35 : decode cX4_hold 35 = .ok (.return_, 1) := by decide +kernel
theorem dX5_init_0 : decode cX5_init 0 = .ok (.aload_n 0, 1) := by decide +kernel
theorem dX5_init_1 : decode cX5_init 1 = .ok (.invokespecial 3, 3) := by decide +kernel
theorem dX5_init_4 : decode cX5_init 4 = .ok (.aload_n 0, 1) := by decide +kernel
theorem dX5_init_5 : decode cX5_init 5 = .ok (.bipush 34, 2) := by decide +kernel
theorem dX5_init_7 : decode cX5_init 7 = .ok (.newarray .long, 2) := by decide +kernel
theorem dX5_init_9 : decode cX5_init 9 = .ok (.putfield 9, 3) := by decide +kernel
theorem dX5_init_12 : decode cX5_init 12 = .ok (.return_, 1) := by decide +kernel
theorem dX5_at_0 : decode cX5_at 0 = .ok (.aload_n 0, 1) := by decide +kernel
theorem dX5_at_1 : decode cX5_at 1 = .ok (.getfield 9, 3) := by decide +kernel
theorem dX5_at_4 : decode cX5_at 4 = .ok (.iload_n 1, 1) := by decide +kernel
theorem dX5_at_5 : decode cX5_at 5 = .ok (.bipush 6, 2) := by decide +kernel
theorem dX5_at_7 : decode cX5_at 7 = .ok (.ishr, 1) := by decide +kernel
theorem dX5_at_8 : decode cX5_at 8 = .ok (.laload, 1) := by decide +kernel
theorem dX5_at_9 : decode cX5_at 9 = .ok (.bipush 63, 2) := by decide +kernel
theorem dX5_at_11 : decode cX5_at 11 = .ok (.iload_n 1, 1) := by decide +kernel
theorem dX5_at_12 : decode cX5_at 12 = .ok (.bipush 63, 2) := by decide +kernel
theorem dX5_at_14 : decode cX5_at 14 = .ok (.iand, 1) := by decide +kernel
theorem dX5_at_15 : decode cX5_at 15 = .ok (.isub, 1) := by decide +kernel
theorem dX5_at_16 : decode cX5_at 16 = .ok (.lushr, 1) := by decide +kernel
theorem dX5_at_17 : decode cX5_at 17 = .ok (.l2i, 1) := by decide +kernel
theorem dX5_at_18 : decode cX5_at 18 = .ok (.iconst 1, 1) := by decide +kernel
theorem dX5_at_19 : decode cX5_at 19 = .ok (.iand, 1) := by decide +kernel
theorem dX5_at_20 : decode cX5_at 20 = .ok (.ireturn, 1) := by decide +kernel
theorem dX5_set_0 : decode cX5_set 0 = .ok (.lconst 1, 1) := by decide +kernel
theorem dX5_set_1 : decode cX5_set 1 = .ok (.bipush 63, 2) := by decide +kernel
theorem dX5_set_3 : decode cX5_set 3 = .ok (.iload_n 1, 1) := by decide +kernel
theorem dX5_set_4 : decode cX5_set 4 = .ok (.bipush 63, 2) := by decide +kernel
theorem dX5_set_6 : decode cX5_set 6 = .ok (.iand, 1) := by decide +kernel
theorem dX5_set_7 : decode cX5_set 7 = .ok (.isub, 1) := by decide +kernel
theorem dX5_set_8 : decode cX5_set 8 = .ok (.lshl, 1) := by decide +kernel
theorem dX5_set_9 : decode cX5_set 9 = .ok (.lstore_n 3, 1) := by decide +kernel
theorem dX5_set_10 : decode cX5_set 10 = .ok (.iload_n 2, 1) := by decide +kernel
theorem dX5_set_11 : decode cX5_set 11 = .ok (.ifCond .ne 23, 3) := by decide +kernel
theorem dX5_set_14 : decode cX5_set 14 = .ok (.aload_n 0, 1) := by decide +kernel
theorem dX5_set_15 : decode cX5_set 15 = .ok (.getfield 9, 3) := by decide +kernel
theorem dX5_set_18 : decode cX5_set 18 = .ok (.iload_n 1, 1) := by decide +kernel
theorem dX5_set_19 : decode cX5_set 19 = .ok (.bipush 6, 2) := by decide +kernel
theorem dX5_set_21 : decode cX5_set 21 = .ok (.ishr, 1) := by decide +kernel
theorem dX5_set_22 : decode cX5_set 22 = .ok (.dup2, 1) := by decide +kernel
theorem dX5_set_23 : decode cX5_set 23 = .ok (.laload, 1) := by decide +kernel
theorem dX5_set_24 : decode cX5_set 24 = .ok (.lload_n 3, 1) := by decide +kernel
theorem dX5_set_25 : decode cX5_set 25 = .ok (.ldc2_w 15, 3) := by decide +kernel
theorem dX5_set_28 : decode cX5_set 28 = .ok (.lxor, 1) := by decide +kernel
theorem dX5_set_29 : decode cX5_set 29 = .ok (.land, 1) := by decide +kernel
theorem dX5_set_30 : decode cX5_set 30 = .ok (.lastore, 1) := by decide +kernel
theorem dX5_set_31 : decode cX5_set 31 = .ok (.goto 16, 3) := by decide +kernel
theorem dX5_set_34 : decode cX5_set 34 = .ok (.aload_n 0, 1) := by decide +kernel
theorem dX5_set_35 : decode cX5_set 35 = .ok (.getfield 9, 3) := by decide +kernel
theorem dX5_set_38 : decode cX5_set 38 = .ok (.iload_n 1, 1) := by decide +kernel
theorem dX5_set_39 : decode cX5_set 39 = .ok (.bipush 6, 2) := by decide +kernel
theorem dX5_set_41 : decode cX5_set 41 = .ok (.ishr, 1) := by decide +kernel
theorem dX5_set_42 : decode cX5_set 42 = .ok (.dup2, 1) := by decide +kernel
theorem dX5_set_43 : decode cX5_set 43 = .ok (.laload, 1) := by decide +kernel
theorem dX5_set_44 : decode cX5_set 44 = .ok (.lload_n 3, 1) := by decide +kernel
theorem dX5_set_45 : decode cX5_set 45 = .ok (.lor, 1) := by decide +kernel
theorem dX5_set_46 : decode cX5_set 46 = .ok (.lastore, 1) := by decide +kernel
theorem dX5_set_47 : decode cX5_set 47 = .ok (.return_, 1) := by decide +kernel
theorem dX5_byteAt_0 : decode cX5_byteAt 0 = .ok (.aload_n 0, 1) := by decide +kernel
theorem dX5_byteAt_1 : decode cX5_byteAt 1 = .ok (.getfield 9, 3) := by decide +kernel
theorem dX5_byteAt_4 : decode cX5_byteAt 4 = .ok (.iload_n 1, 1) := by decide +kernel
theorem dX5_byteAt_5 : decode cX5_byteAt 5 = .ok (.iconst 3, 1) := by decide +kernel
theorem dX5_byteAt_6 : decode cX5_byteAt 6 = .ok (.ishr, 1) := by decide +kernel
theorem dX5_byteAt_7 : decode cX5_byteAt 7 = .ok (.laload, 1) := by decide +kernel
theorem dX5_byteAt_8 : decode cX5_byteAt 8 = .ok (.bipush 56, 2) := by decide +kernel
theorem dX5_byteAt_10 : decode cX5_byteAt 10 = .ok (.bipush 8, 2) := by decide +kernel
theorem dX5_byteAt_12 : decode cX5_byteAt 12 = .ok (.iload_n 1, 1) := by decide +kernel
theorem dX5_byteAt_13 : decode cX5_byteAt 13 = .ok (.bipush 7, 2) := by decide +kernel
theorem dX5_byteAt_15 : decode cX5_byteAt 15 = .ok (.iand, 1) := by decide +kernel
theorem dX5_byteAt_16 : decode cX5_byteAt 16 = .ok (.imul, 1) := by decide +kernel
theorem dX5_byteAt_17 : decode cX5_byteAt 17 = .ok (.isub, 1) := by decide +kernel
theorem dX5_byteAt_18 : decode cX5_byteAt 18 = .ok (.lushr, 1) := by decide +kernel
theorem dX5_byteAt_19 : decode cX5_byteAt 19 = .ok (.l2i, 1) := by decide +kernel
theorem dX5_byteAt_20 : decode cX5_byteAt 20 = .ok (.sipush 255, 3) := by decide +kernel
theorem dX5_byteAt_23 : decode cX5_byteAt 23 = .ok (.iand, 1) := by decide +kernel
theorem dX5_byteAt_24 : decode cX5_byteAt 24 = .ok (.ireturn, 1) := by decide +kernel
theorem dX5_setByte_0 : decode cX5_setByte 0 = .ok (.bipush 56, 2) := by decide +kernel
theorem dX5_setByte_2 : decode cX5_setByte 2 = .ok (.bipush 8, 2) := by decide +kernel
theorem dX5_setByte_4 : decode cX5_setByte 4 = .ok (.iload_n 1, 1) := by decide +kernel
theorem dX5_setByte_5 : decode cX5_setByte 5 = .ok (.bipush 7, 2) := by decide +kernel
theorem dX5_setByte_7 : decode cX5_setByte 7 = .ok (.iand, 1) := by decide +kernel
theorem dX5_setByte_8 : decode cX5_setByte 8 = .ok (.imul, 1) := by decide +kernel
theorem dX5_setByte_9 : decode cX5_setByte 9 = .ok (.isub, 1) := by decide +kernel
theorem dX5_setByte_10 : decode cX5_setByte 10 = .ok (.istore_n 3, 1) := by decide +kernel
theorem dX5_setByte_11 : decode cX5_setByte 11 = .ok (.aload_n 0, 1) := by decide +kernel
theorem dX5_setByte_12 : decode cX5_setByte 12 = .ok (.getfield 9, 3) := by decide +kernel
theorem dX5_setByte_15 : decode cX5_setByte 15 = .ok (.iload_n 1, 1) := by decide +kernel
theorem dX5_setByte_16 : decode cX5_setByte 16 = .ok (.iconst 3, 1) := by decide +kernel
theorem dX5_setByte_17 : decode cX5_setByte 17 = .ok (.ishr, 1) := by decide +kernel
theorem dX5_setByte_18 : decode cX5_setByte 18 = .ok (.aload_n 0, 1) := by decide +kernel
theorem dX5_setByte_19 : decode cX5_setByte 19 = .ok (.getfield 9, 3) := by decide +kernel
theorem dX5_setByte_22 : decode cX5_setByte 22 = .ok (.iload_n 1, 1) := by decide +kernel
theorem dX5_setByte_23 : decode cX5_setByte 23 = .ok (.iconst 3, 1) := by decide +kernel
theorem dX5_setByte_24 : decode cX5_setByte 24 = .ok (.ishr, 1) := by decide +kernel
theorem dX5_setByte_25 : decode cX5_setByte 25 = .ok (.laload, 1) := by decide +kernel
theorem dX5_setByte_26 : decode cX5_setByte 26 = .ok (.ldc2_w 17, 3) := by decide +kernel
theorem dX5_setByte_29 : decode cX5_setByte 29 = .ok (.iload_n 3, 1) := by decide +kernel
theorem dX5_setByte_30 : decode cX5_setByte 30 = .ok (.lshl, 1) := by decide +kernel
theorem dX5_setByte_31 : decode cX5_setByte 31 = .ok (.ldc2_w 15, 3) := by decide +kernel
theorem dX5_setByte_34 : decode cX5_setByte 34 = .ok (.lxor, 1) := by decide +kernel
theorem dX5_setByte_35 : decode cX5_setByte 35 = .ok (.land, 1) := by decide +kernel
theorem dX5_setByte_36 : decode cX5_setByte 36 = .ok (.iload_n 2, 1) := by decide +kernel
theorem dX5_setByte_37 : decode cX5_setByte 37 = .ok (.i2l, 1) := by decide +kernel
theorem dX5_setByte_38 : decode cX5_setByte 38 = .ok (.iload_n 3, 1) := by decide +kernel
theorem dX5_setByte_39 : decode cX5_setByte 39 = .ok (.lshl, 1) := by decide +kernel
theorem dX5_setByte_40 : decode cX5_setByte 40 = .ok (.lor, 1) := by decide +kernel
theorem dX5_setByte_41 : decode cX5_setByte 41 = .ok (.lastore, 1) := by decide +kernel
theorem dX5_setByte_42 : decode cX5_setByte 42 = .ok (.return_, 1) := by decide +kernel
theorem dX5_ones_0 : decode cX5_ones 0 = .ok (.iconst 0, 1) := by decide +kernel
theorem dX5_ones_1 : decode cX5_ones 1 = .ok (.istore_n 1, 1) := by decide +kernel
theorem dX5_ones_2 : decode cX5_ones 2 = .ok (.iconst 0, 1) := by decide +kernel
theorem dX5_ones_3 : decode cX5_ones 3 = .ok (.istore_n 2, 1) := by decide +kernel
theorem dX5_ones_4 : decode cX5_ones 4 = .ok (.iload_n 2, 1) := by decide +kernel
theorem dX5_ones_5 : decode cX5_ones 5 = .ok (.bipush 34, 2) := by decide +kernel
theorem dX5_ones_7 : decode cX5_ones 7 = .ok (.if_icmp .ge 21, 3) := by decide +kernel
theorem dX5_ones_10 : decode cX5_ones 10 = .ok (.iload_n 1, 1) := by decide +kernel
theorem dX5_ones_11 : decode cX5_ones 11 = .ok (.aload_n 0, 1) := by decide +kernel
theorem dX5_ones_12 : decode cX5_ones 12 = .ok (.getfield 9, 3) := by decide +kernel
theorem dX5_ones_15 : decode cX5_ones 15 = .ok (.iload_n 2, 1) := by decide +kernel
theorem dX5_ones_16 : decode cX5_ones 16 = .ok (.laload, 1) := by decide +kernel
theorem dX5_ones_17 : decode cX5_ones 17 = .ok (.invokestatic 19, 3) := by decide +kernel
theorem dX5_ones_20 : decode cX5_ones 20 = .ok (.iadd, 1) := by decide +kernel
theorem dX5_ones_21 : decode cX5_ones 21 = .ok (.istore_n 1, 1) := by decide +kernel
theorem dX5_ones_22 : decode cX5_ones 22 = .ok (.iinc 2 1, 3) := by decide +kernel
theorem dX5_ones_25 : decode cX5_ones 25 = .ok (.goto (-21), 3) := by decide +kernel
theorem dX5_ones_28 : decode cX5_ones 28 = .ok (.iload_n 1, 1) := by decide +kernel
theorem dX5_ones_29 : decode cX5_ones 29 = .ok (.ireturn, 1) := by decide +kernel
theorem dX5_apart_0 : decode cX5_apart 0 = .ok (.iconst 0, 1) := by decide +kernel
end
section
theorem dX5_apart_1 : decode cX5_apart 1 = .ok (.istore_n 2, 1) := by decide +kernel
theorem dX5_apart_2 : decode cX5_apart 2 = .ok (.iconst 0, 1) := by decide +kernel
theorem dX5_apart_3 : decode cX5_apart 3 = .ok (.istore_n 3, 1) := by decide +kernel
theorem dX5_apart_4 : decode cX5_apart 4 = .ok (.iload_n 3, 1) := by decide +kernel
theorem dX5_apart_5 : decode cX5_apart 5 = .ok (.bipush 34, 2) := by decide +kernel
theorem dX5_apart_7 : decode cX5_apart 7 = .ok (.if_icmp .ge 28, 3) := by decide +kernel
theorem dX5_apart_10 : decode cX5_apart 10 = .ok (.iload_n 2, 1) := by decide +kernel
theorem dX5_apart_11 : decode cX5_apart 11 = .ok (.aload_n 0, 1) := by decide +kernel
theorem dX5_apart_12 : decode cX5_apart 12 = .ok (.getfield 9, 3) := by decide +kernel
theorem dX5_apart_15 : decode cX5_apart 15 = .ok (.iload_n 3, 1) := by decide +kernel
theorem dX5_apart_16 : decode cX5_apart 16 = .ok (.laload, 1) := by decide +kernel
theorem dX5_apart_17 : decode cX5_apart 17 = .ok (.aload_n 1, 1) := by decide +kernel
theorem dX5_apart_18 : decode cX5_apart 18 = .ok (.getfield 9, 3) := by decide +kernel
theorem dX5_apart_21 : decode cX5_apart 21 = .ok (.iload_n 3, 1) := by decide +kernel
theorem dX5_apart_22 : decode cX5_apart 22 = .ok (.laload, 1) := by decide +kernel
theorem dX5_apart_23 : decode cX5_apart 23 = .ok (.lxor, 1) := by decide +kernel
theorem dX5_apart_24 : decode cX5_apart 24 = .ok (.invokestatic 19, 3) := by decide +kernel
theorem dX5_apart_27 : decode cX5_apart 27 = .ok (.iadd, 1) := by decide +kernel
theorem dX5_apart_28 : decode cX5_apart 28 = .ok (.istore_n 2, 1) := by decide +kernel
theorem dX5_apart_29 : decode cX5_apart 29 = .ok (.iinc 3 1, 3) := by decide +kernel
theorem dX5_apart_32 : decode cX5_apart 32 = .ok (.goto (-28), 3) := by decide +kernel
theorem dX5_apart_35 : decode cX5_apart 35 = .ok (.iload_n 2, 1) := by decide +kernel
theorem dX5_apart_36 : decode cX5_apart 36 = .ok (.ireturn, 1) := by decide +kernel
theorem dX5_clear_0 : decode cX5_clear 0 = .ok (.aload_n 0, 1) := by decide +kernel
theorem dX5_clear_1 : decode cX5_clear 1 = .ok (.getfield 9, 3) := by decide +kernel
theorem dX5_clear_4 : decode cX5_clear 4 = .ok (.lconst 0, 1) := by decide +kernel
theorem dX5_clear_5 : decode cX5_clear 5 = .ok (.invokestatic 25, 3) := by decide +kernel
theorem dX5_clear_8 : decode cX5_clear 8 = .ok (.return_, 1) := by decide +kernel
theorem dX5_become_0 : decode cX5_become 0 = .ok (.aload_n 1, 1) := by decide +kernel
theorem dX5_become_1 : decode cX5_become 1 = .ok (.getfield 9, 3) := by decide +kernel
theorem dX5_become_4 : decode cX5_become 4 = .ok (.iconst 0, 1) := by decide +kernel
theorem dX5_become_5 : decode cX5_become 5 = .ok (.aload_n 0, 1) := by decide +kernel
theorem dX5_become_6 : decode cX5_become 6 = .ok (.getfield 9, 3) := by decide +kernel
theorem dX5_become_9 : decode cX5_become 9 = .ok (.iconst 0, 1) := by decide +kernel
theorem dX5_become_10 : decode cX5_become 10 = .ok (.bipush 34, 2) := by decide +kernel
theorem dX5_become_12 : decode cX5_become 12 = .ok (.invokestatic 31, 3) := by decide +kernel
theorem dX5_become_15 : decode cX5_become 15 = .ok (.return_, 1) := by decide +kernel
theorem dX5_becomeDifference_0 : decode cX5_becomeDifference 0 = .ok (.iconst 0, 1) := by decide +kernel
theorem dX5_becomeDifference_1 : decode cX5_becomeDifference 1 = .ok (.istore_n 3, 1) := by decide +kernel
theorem dX5_becomeDifference_2 : decode cX5_becomeDifference 2 = .ok (.iload_n 3, 1) := by decide +kernel
theorem dX5_becomeDifference_3 : decode cX5_becomeDifference 3 = .ok (.bipush 34, 2) := by decide +kernel
theorem dX5_becomeDifference_5 : decode cX5_becomeDifference 5 = .ok (.if_icmp .ge 28, 3) := by decide +kernel
theorem dX5_becomeDifference_8 : decode cX5_becomeDifference 8 = .ok (.aload_n 0, 1) := by decide +kernel
theorem dX5_becomeDifference_9 : decode cX5_becomeDifference 9 = .ok (.getfield 9, 3) := by decide +kernel
theorem dX5_becomeDifference_12 : decode cX5_becomeDifference 12 = .ok (.iload_n 3, 1) := by decide +kernel
theorem dX5_becomeDifference_13 : decode cX5_becomeDifference 13 = .ok (.aload_n 1, 1) := by decide +kernel
theorem dX5_becomeDifference_14 : decode cX5_becomeDifference 14 = .ok (.getfield 9, 3) := by decide +kernel
theorem dX5_becomeDifference_17 : decode cX5_becomeDifference 17 = .ok (.iload_n 3, 1) := by decide +kernel
theorem dX5_becomeDifference_18 : decode cX5_becomeDifference 18 = .ok (.laload, 1) := by decide +kernel
theorem dX5_becomeDifference_19 : decode cX5_becomeDifference 19 = .ok (.aload_n 2, 1) := by decide +kernel
theorem dX5_becomeDifference_20 : decode cX5_becomeDifference 20 = .ok (.getfield 9, 3) := by decide +kernel
theorem dX5_becomeDifference_23 : decode cX5_becomeDifference 23 = .ok (.iload_n 3, 1) := by decide +kernel
theorem dX5_becomeDifference_24 : decode cX5_becomeDifference 24 = .ok (.laload, 1) := by decide +kernel
theorem dX5_becomeDifference_25 : decode cX5_becomeDifference 25 = .ok (.lxor, 1) := by decide +kernel
theorem dX5_becomeDifference_26 : decode cX5_becomeDifference 26 = .ok (.lastore, 1) := by decide +kernel
theorem dX5_becomeDifference_27 : decode cX5_becomeDifference 27 = .ok (.iinc 3 1, 3) := by decide +kernel
theorem dX5_becomeDifference_30 : decode cX5_becomeDifference 30 = .ok (.goto (-28), 3) := by decide +kernel
theorem dX5_becomeDifference_33 : decode cX5_becomeDifference 33 = .ok (.return_, 1) := by decide +kernel
theorem dX5_becomeFirstOnes_0 : decode cX5_becomeFirstOnes 0 = .ok (.aload_n 0, 1) := by decide +kernel
theorem dX5_becomeFirstOnes_1 : decode cX5_becomeFirstOnes 1 = .ok (.invokevirtual 37, 3) := by decide +kernel
theorem dX5_becomeFirstOnes_4 : decode cX5_becomeFirstOnes 4 = .ok (.iconst 0, 1) := by decide +kernel
theorem dX5_becomeFirstOnes_5 : decode cX5_becomeFirstOnes 5 = .ok (.istore_n 2, 1) := by decide +kernel
theorem dX5_becomeFirstOnes_6 : decode cX5_becomeFirstOnes 6 = .ok (.iload_n 2, 1) := by decide +kernel
theorem dX5_becomeFirstOnes_7 : decode cX5_becomeFirstOnes 7 = .ok (.iload_n 1, 1) := by decide +kernel
theorem dX5_becomeFirstOnes_8 : decode cX5_becomeFirstOnes 8 = .ok (.if_icmp .ge 15, 3) := by decide +kernel
theorem dX5_becomeFirstOnes_11 : decode cX5_becomeFirstOnes 11 = .ok (.aload_n 0, 1) := by decide +kernel
theorem dX5_becomeFirstOnes_12 : decode cX5_becomeFirstOnes 12 = .ok (.iload_n 2, 1) := by decide +kernel
theorem dX5_becomeFirstOnes_13 : decode cX5_becomeFirstOnes 13 = .ok (.iconst 1, 1) := by decide +kernel
theorem dX5_becomeFirstOnes_14 : decode cX5_becomeFirstOnes 14 = .ok (.invokevirtual 40, 3) := by decide +kernel
theorem dX5_becomeFirstOnes_17 : decode cX5_becomeFirstOnes 17 = .ok (.iinc 2 1, 3) := by decide +kernel
theorem dX5_becomeFirstOnes_20 : decode cX5_becomeFirstOnes 20 = .ok (.goto (-14), 3) := by decide +kernel
theorem dX5_becomeFirstOnes_23 : decode cX5_becomeFirstOnes 23 = .ok (.return_, 1) := by decide +kernel
theorem dJ13_bitCount_95d88_0 : decode cJ13_bitCount_95d88 0 = .ok (.lload_n 0, 1) := by decide +kernel
theorem dJ13_bitCount_95d88_1 : decode cJ13_bitCount_95d88 1 = .ok (.lload_n 0, 1) := by decide +kernel
theorem dJ13_bitCount_95d88_2 : decode cJ13_bitCount_95d88 2 = .ok (.iconst 1, 1) := by decide +kernel
theorem dJ13_bitCount_95d88_3 : decode cJ13_bitCount_95d88 3 = .ok (.lushr, 1) := by decide +kernel
theorem dJ13_bitCount_95d88_4 : decode cJ13_bitCount_95d88 4 = .ok (.ldc2_w 314, 3) := by decide +kernel
theorem dJ13_bitCount_95d88_7 : decode cJ13_bitCount_95d88 7 = .ok (.land, 1) := by decide +kernel
theorem dJ13_bitCount_95d88_8 : decode cJ13_bitCount_95d88 8 = .ok (.lsub, 1) := by decide +kernel
theorem dJ13_bitCount_95d88_9 : decode cJ13_bitCount_95d88 9 = .ok (.lstore_n 0, 1) := by decide +kernel
theorem dJ13_bitCount_95d88_10 : decode cJ13_bitCount_95d88 10 = .ok (.lload_n 0, 1) := by decide +kernel
theorem dJ13_bitCount_95d88_11 : decode cJ13_bitCount_95d88 11 = .ok (.ldc2_w 316, 3) := by decide +kernel
theorem dJ13_bitCount_95d88_14 : decode cJ13_bitCount_95d88 14 = .ok (.land, 1) := by decide +kernel
theorem dJ13_bitCount_95d88_15 : decode cJ13_bitCount_95d88 15 = .ok (.lload_n 0, 1) := by decide +kernel
theorem dJ13_bitCount_95d88_16 : decode cJ13_bitCount_95d88 16 = .ok (.iconst 2, 1) := by decide +kernel
theorem dJ13_bitCount_95d88_17 : decode cJ13_bitCount_95d88 17 = .ok (.lushr, 1) := by decide +kernel
theorem dJ13_bitCount_95d88_18 : decode cJ13_bitCount_95d88 18 = .ok (.ldc2_w 316, 3) := by decide +kernel
theorem dJ13_bitCount_95d88_21 : decode cJ13_bitCount_95d88 21 = .ok (.land, 1) := by decide +kernel
theorem dJ13_bitCount_95d88_22 : decode cJ13_bitCount_95d88 22 = .ok (.ladd, 1) := by decide +kernel
theorem dJ13_bitCount_95d88_23 : decode cJ13_bitCount_95d88 23 = .ok (.lstore_n 0, 1) := by decide +kernel
theorem dJ13_bitCount_95d88_24 : decode cJ13_bitCount_95d88 24 = .ok (.lload_n 0, 1) := by decide +kernel
theorem dJ13_bitCount_95d88_25 : decode cJ13_bitCount_95d88 25 = .ok (.lload_n 0, 1) := by decide +kernel
theorem dJ13_bitCount_95d88_26 : decode cJ13_bitCount_95d88 26 = .ok (.iconst 4, 1) := by decide +kernel
theorem dJ13_bitCount_95d88_27 : decode cJ13_bitCount_95d88 27 = .ok (.lushr, 1) := by decide +kernel
theorem dJ13_bitCount_95d88_28 : decode cJ13_bitCount_95d88 28 = .ok (.ladd, 1) := by decide +kernel
theorem dJ13_bitCount_95d88_29 : decode cJ13_bitCount_95d88 29 = .ok (.ldc2_w 318, 3) := by decide +kernel
theorem dJ13_bitCount_95d88_32 : decode cJ13_bitCount_95d88 32 = .ok (.land, 1) := by decide +kernel
theorem dJ13_bitCount_95d88_33 : decode cJ13_bitCount_95d88 33 = .ok (.lstore_n 0, 1) := by decide +kernel
theorem dJ13_bitCount_95d88_34 : decode cJ13_bitCount_95d88 34 = .ok (.lload_n 0, 1) := by decide +kernel
theorem dJ13_bitCount_95d88_35 : decode cJ13_bitCount_95d88 35 = .ok (.lload_n 0, 1) := by decide +kernel
theorem dJ13_bitCount_95d88_36 : decode cJ13_bitCount_95d88 36 = .ok (.bipush 8, 2) := by decide +kernel
theorem dJ13_bitCount_95d88_38 : decode cJ13_bitCount_95d88 38 = .ok (.lushr, 1) := by decide +kernel
theorem dJ13_bitCount_95d88_39 : decode cJ13_bitCount_95d88 39 = .ok (.ladd, 1) := by decide +kernel
theorem dJ13_bitCount_95d88_40 : decode cJ13_bitCount_95d88 40 = .ok (.lstore_n 0, 1) := by decide +kernel
theorem dJ13_bitCount_95d88_41 : decode cJ13_bitCount_95d88 41 = .ok (.lload_n 0, 1) := by decide +kernel
theorem dJ13_bitCount_95d88_42 : decode cJ13_bitCount_95d88 42 = .ok (.lload_n 0, 1) := by decide +kernel
theorem dJ13_bitCount_95d88_43 : decode cJ13_bitCount_95d88 43 = .ok (.bipush 16, 2) := by decide +kernel
theorem dJ13_bitCount_95d88_45 : decode cJ13_bitCount_95d88 45 = .ok (.lushr, 1) := by decide +kernel
theorem dJ13_bitCount_95d88_46 : decode cJ13_bitCount_95d88 46 = .ok (.ladd, 1) := by decide +kernel
theorem dJ13_bitCount_95d88_47 : decode cJ13_bitCount_95d88 47 = .ok (.lstore_n 0, 1) := by decide +kernel
theorem dJ13_bitCount_95d88_48 : decode cJ13_bitCount_95d88 48 = .ok (.lload_n 0, 1) := by decide +kernel
theorem dJ13_bitCount_95d88_49 : decode cJ13_bitCount_95d88 49 = .ok (.lload_n 0, 1) := by decide +kernel
theorem dJ13_bitCount_95d88_50 : decode cJ13_bitCount_95d88 50 = .ok (.bipush 32, 2) := by decide +kernel
theorem dJ13_bitCount_95d88_52 : decode cJ13_bitCount_95d88 52 = .ok (.lushr, 1) := by decide +kernel
theorem dJ13_bitCount_95d88_53 : decode cJ13_bitCount_95d88 53 = .ok (.ladd, 1) := by decide +kernel
theorem dJ13_bitCount_95d88_54 : decode cJ13_bitCount_95d88 54 = .ok (.lstore_n 0, 1) := by decide +kernel
theorem dJ13_bitCount_95d88_55 : decode cJ13_bitCount_95d88 55 = .ok (.lload_n 0, 1) := by decide +kernel
theorem dJ13_bitCount_95d88_56 : decode cJ13_bitCount_95d88 56 = .ok (.l2i, 1) := by decide +kernel
theorem dJ13_bitCount_95d88_57 : decode cJ13_bitCount_95d88 57 = .ok (.bipush 127, 2) := by decide +kernel
theorem dJ13_bitCount_95d88_59 : decode cJ13_bitCount_95d88 59 = .ok (.iand, 1) := by decide +kernel
theorem dJ13_bitCount_95d88_60 : decode cJ13_bitCount_95d88 60 = .ok (.ireturn, 1) := by decide +kernel
theorem dJ9_floorMod_7cf53_0 : decode cJ9_floorMod_7cf53 0 = .ok (.iload_n 0, 1) := by decide +kernel
theorem dJ9_floorMod_7cf53_1 : decode cJ9_floorMod_7cf53 1 = .ok (.iload_n 1, 1) := by decide +kernel
theorem dJ9_floorMod_7cf53_2 : decode cJ9_floorMod_7cf53 2 = .ok (.irem, 1) := by decide +kernel
theorem dJ9_floorMod_7cf53_3 : decode cJ9_floorMod_7cf53 3 = .ok (.istore_n 2, 1) := by decide +kernel
theorem dJ9_floorMod_7cf53_4 : decode cJ9_floorMod_7cf53 4 = .ok (.iload_n 0, 1) := by decide +kernel
theorem dJ9_floorMod_7cf53_5 : decode cJ9_floorMod_7cf53 5 = .ok (.iload_n 1, 1) := by decide +kernel
theorem dJ9_floorMod_7cf53_6 : decode cJ9_floorMod_7cf53 6 = .ok (.ixor, 1) := by decide +kernel
theorem dJ9_floorMod_7cf53_7 : decode cJ9_floorMod_7cf53 7 = .ok (.ifCond .ge 11, 3) := by decide +kernel
theorem dJ9_floorMod_7cf53_10 : decode cJ9_floorMod_7cf53 10 = .ok (.iload_n 2, 1) := by decide +kernel
theorem dJ9_floorMod_7cf53_11 : decode cJ9_floorMod_7cf53 11 = .ok (.ifCond .eq 7, 3) := by decide +kernel
theorem dJ9_floorMod_7cf53_14 : decode cJ9_floorMod_7cf53 14 = .ok (.iload_n 2, 1) := by decide +kernel
theorem dJ9_floorMod_7cf53_15 : decode cJ9_floorMod_7cf53 15 = .ok (.iload_n 1, 1) := by decide +kernel
theorem dJ9_floorMod_7cf53_16 : decode cJ9_floorMod_7cf53 16 = .ok (.iadd, 1) := by decide +kernel
theorem dJ9_floorMod_7cf53_17 : decode cJ9_floorMod_7cf53 17 = .ok (.ireturn, 1) := by decide +kernel
theorem dJ9_floorMod_7cf53_18 : decode cJ9_floorMod_7cf53 18 = .ok (.iload_n 2, 1) := by decide +kernel
theorem dJ9_floorMod_7cf53_19 : decode cJ9_floorMod_7cf53 19 = .ok (.ireturn, 1) := by decide +kernel
theorem dJ9_min_7cf53_0 : decode cJ9_min_7cf53 0 = .ok (.iload_n 0, 1) := by decide +kernel
theorem dJ9_min_7cf53_1 : decode cJ9_min_7cf53 1 = .ok (.iload_n 1, 1) := by decide +kernel
theorem dJ9_min_7cf53_2 : decode cJ9_min_7cf53 2 = .ok (.if_icmp .gt 7, 3) := by decide +kernel
theorem dJ9_min_7cf53_5 : decode cJ9_min_7cf53 5 = .ok (.iload_n 0, 1) := by decide +kernel
theorem dJ9_min_7cf53_6 : decode cJ9_min_7cf53 6 = .ok (.goto 4, 3) := by decide +kernel
theorem dJ9_min_7cf53_9 : decode cJ9_min_7cf53 9 = .ok (.iload_n 1, 1) := by decide +kernel
theorem dJ9_min_7cf53_10 : decode cJ9_min_7cf53 10 = .ok (.ireturn, 1) := by decide +kernel
theorem dJ7_fill_d0a16_0 : decode cJ7_fill_d0a16 0 = .ok (.iconst 0, 1) := by decide +kernel
theorem dJ7_fill_d0a16_1 : decode cJ7_fill_d0a16 1 = .ok (.istore_n 3, 1) := by decide +kernel
theorem dJ7_fill_d0a16_2 : decode cJ7_fill_d0a16 2 = .ok (.aload_n 0, 1) := by decide +kernel
theorem dJ7_fill_d0a16_3 : decode cJ7_fill_d0a16 3 = .ok (.arraylength, 1) := by decide +kernel
theorem dJ7_fill_d0a16_4 : decode cJ7_fill_d0a16 4 = .ok (.istore 4, 2) := by decide +kernel
theorem dJ7_fill_d0a16_6 : decode cJ7_fill_d0a16 6 = .ok (.iload_n 3, 1) := by decide +kernel
theorem dJ7_fill_d0a16_7 : decode cJ7_fill_d0a16 7 = .ok (.iload 4, 2) := by decide +kernel
theorem dJ7_fill_d0a16_9 : decode cJ7_fill_d0a16 9 = .ok (.if_icmp .ge 13, 3) := by decide +kernel
theorem dJ7_fill_d0a16_12 : decode cJ7_fill_d0a16 12 = .ok (.aload_n 0, 1) := by decide +kernel
theorem dJ7_fill_d0a16_13 : decode cJ7_fill_d0a16 13 = .ok (.iload_n 3, 1) := by decide +kernel
theorem dJ7_fill_d0a16_14 : decode cJ7_fill_d0a16 14 = .ok (.lload_n 1, 1) := by decide +kernel
theorem dJ7_fill_d0a16_15 : decode cJ7_fill_d0a16 15 = .ok (.lastore, 1) := by decide +kernel
theorem dJ7_fill_d0a16_16 : decode cJ7_fill_d0a16 16 = .ok (.iinc 3 1, 3) := by decide +kernel
theorem dJ7_fill_d0a16_19 : decode cJ7_fill_d0a16 19 = .ok (.goto (-13), 3) := by decide +kernel
theorem dJ7_fill_d0a16_22 : decode cJ7_fill_d0a16 22 = .ok (.return_, 1) := by decide +kernel
theorem dJ7_fill_53178_0 : decode cJ7_fill_53178 0 = .ok (.iconst 0, 1) := by decide +kernel
theorem dJ7_fill_53178_1 : decode cJ7_fill_53178 1 = .ok (.istore_n 2, 1) := by decide +kernel
theorem dJ7_fill_53178_2 : decode cJ7_fill_53178 2 = .ok (.aload_n 0, 1) := by decide +kernel
theorem dJ7_fill_53178_3 : decode cJ7_fill_53178 3 = .ok (.arraylength, 1) := by decide +kernel
theorem dJ7_fill_53178_4 : decode cJ7_fill_53178 4 = .ok (.istore_n 3, 1) := by decide +kernel
theorem dJ7_fill_53178_5 : decode cJ7_fill_53178 5 = .ok (.iload_n 2, 1) := by decide +kernel
theorem dJ7_fill_53178_6 : decode cJ7_fill_53178 6 = .ok (.iload_n 3, 1) := by decide +kernel
theorem dJ7_fill_53178_7 : decode cJ7_fill_53178 7 = .ok (.if_icmp .ge 13, 3) := by decide +kernel
theorem dJ7_fill_53178_10 : decode cJ7_fill_53178 10 = .ok (.aload_n 0, 1) := by decide +kernel
theorem dJ7_fill_53178_11 : decode cJ7_fill_53178 11 = .ok (.iload_n 2, 1) := by decide +kernel
theorem dJ7_fill_53178_12 : decode cJ7_fill_53178 12 = .ok (.iload_n 1, 1) := by decide +kernel
theorem dJ7_fill_53178_13 : decode cJ7_fill_53178 13 = .ok (.iastore, 1) := by decide +kernel
theorem dJ7_fill_53178_14 : decode cJ7_fill_53178 14 = .ok (.iinc 2 1, 3) := by decide +kernel
theorem dJ7_fill_53178_17 : decode cJ7_fill_53178 17 = .ok (.goto (-12), 3) := by decide +kernel
theorem dJ7_fill_53178_20 : decode cJ7_fill_53178 20 = .ok (.return_, 1) := by decide +kernel
end
section
theorem dX3_init_0 : decode cX3_init 0 = .ok (.aload_n 0, 1) := by decide +kernel
theorem dX3_init_1 : decode cX3_init 1 = .ok (.invokespecial 3, 3) := by decide +kernel
theorem dX3_init_4 : decode cX3_init 4 = .ok (.aload_n 0, 1) := by decide +kernel
theorem dX3_init_5 : decode cX3_init 5 = .ok (.new 9, 3) := by decide +kernel
theorem dX3_init_8 : decode cX3_init 8 = .ok (.dup, 1) := by decide +kernel
theorem dX3_init_9 : decode cX3_init 9 = .ok (.invokespecial 11, 3) := by decide +kernel
theorem dX3_init_12 : decode cX3_init 12 = .ok (.putfield 12, 3) := by decide +kernel
theorem dX3_init_15 : decode cX3_init 15 = .ok (.aload_n 0, 1) := by decide +kernel
theorem dX3_init_16 : decode cX3_init 16 = .ok (.bipush 17, 2) := by decide +kernel
theorem dX3_init_18 : decode cX3_init 18 = .ok (.newarray .int, 2) := by decide +kernel
theorem dX3_init_20 : decode cX3_init 20 = .ok (.putfield 18, 3) := by decide +kernel
theorem dX3_init_23 : decode cX3_init 23 = .ok (.aload_n 0, 1) := by decide +kernel
theorem dX3_init_24 : decode cX3_init 24 = .ok (.bipush 17, 2) := by decide +kernel
theorem dX3_init_26 : decode cX3_init 26 = .ok (.newarray .int, 2) := by decide +kernel
theorem dX3_init_28 : decode cX3_init 28 = .ok (.putfield 22, 3) := by decide +kernel
theorem dX3_init_31 : decode cX3_init 31 = .ok (.aload_n 0, 1) := by decide +kernel
theorem dX3_init_32 : decode cX3_init 32 = .ok (.bipush 17, 2) := by decide +kernel
theorem dX3_init_34 : decode cX3_init 34 = .ok (.newarray .int, 2) := by decide +kernel
theorem dX3_init_36 : decode cX3_init 36 = .ok (.putfield 25, 3) := by decide +kernel
theorem dX3_init_39 : decode cX3_init 39 = .ok (.aload_n 0, 1) := by decide +kernel
theorem dX3_init_40 : decode cX3_init 40 = .ok (.bipush 17, 2) := by decide +kernel
theorem dX3_init_42 : decode cX3_init 42 = .ok (.newarray .int, 2) := by decide +kernel
theorem dX3_init_44 : decode cX3_init 44 = .ok (.putfield 28, 3) := by decide +kernel
theorem dX3_init_47 : decode cX3_init 47 = .ok (.aload_n 0, 1) := by decide +kernel
theorem dX3_init_48 : decode cX3_init 48 = .ok (.bipush 9, 2) := by decide +kernel
theorem dX3_init_50 : decode cX3_init 50 = .ok (.newarray .int, 2) := by decide +kernel
theorem dX3_init_52 : decode cX3_init 52 = .ok (.putfield 31, 3) := by decide +kernel
theorem dX3_init_55 : decode cX3_init 55 = .ok (.aload_n 0, 1) := by decide +kernel
theorem dX3_init_56 : decode cX3_init 56 = .ok (.bipush 8, 2) := by decide +kernel
theorem dX3_init_58 : decode cX3_init 58 = .ok (.newarray .int, 2) := by decide +kernel
theorem dX3_init_60 : decode cX3_init 60 = .ok (.putfield 34, 3) := by decide +kernel
theorem dX3_init_63 : decode cX3_init 63 = .ok (.aload_n 0, 1) := by decide +kernel
theorem dX3_init_64 : decode cX3_init 64 = .ok (.aload_n 1, 1) := by decide +kernel
theorem dX3_init_65 : decode cX3_init 65 = .ok (.putfield 37, 3) := by decide +kernel
theorem dX3_init_68 : decode cX3_init 68 = .ok (.aload_n 0, 1) := by decide +kernel
theorem dX3_init_69 : decode cX3_init 69 = .ok (.aload_n 2, 1) := by decide +kernel
theorem dX3_init_70 : decode cX3_init 70 = .ok (.putfield 41, 3) := by decide +kernel
theorem dX3_init_73 : decode cX3_init 73 = .ok (.return_, 1) := by decide +kernel
theorem dX3_mend_0 : decode cX3_mend 0 = .ok (.aload_n 1, 1) := by decide +kernel
theorem dX3_mend_1 : decode cX3_mend 1 = .ok (.getfield 45, 3) := by decide +kernel
theorem dX3_mend_4 : decode cX3_mend 4 = .ok (.invokevirtual 50, 3) := by decide +kernel
theorem dX3_mend_7 : decode cX3_mend 7 = .ok (.istore_n 2, 1) := by decide +kernel
theorem dX3_mend_8 : decode cX3_mend 8 = .ok (.iload_n 2, 1) := by decide +kernel
theorem dX3_mend_9 : decode cX3_mend 9 = .ok (.iconst 2, 1) := by decide +kernel
theorem dX3_mend_10 : decode cX3_mend 10 = .ok (.aload_n 0, 1) := by decide +kernel
theorem dX3_mend_11 : decode cX3_mend 11 = .ok (.getfield 41, 3) := by decide +kernel
theorem dX3_mend_14 : decode cX3_mend 14 = .ok (.getfield 54, 3) := by decide +kernel
theorem dX3_mend_17 : decode cX3_mend 17 = .ok (.imul, 1) := by decide +kernel
theorem dX3_mend_18 : decode cX3_mend 18 = .ok (.if_icmp .le 6, 3) := by decide +kernel
theorem dX3_mend_21 : decode cX3_mend 21 = .ok (.bipush (-4), 2) := by decide +kernel
theorem dX3_mend_23 : decode cX3_mend 23 = .ok (.ireturn, 1) := by decide +kernel
theorem dX3_mend_24 : decode cX3_mend 24 = .ok (.aload_n 0, 1) := by decide +kernel
theorem dX3_mend_25 : decode cX3_mend 25 = .ok (.aload_n 1, 1) := by decide +kernel
theorem dX3_mend_26 : decode cX3_mend 26 = .ok (.iconst 0, 1) := by decide +kernel
theorem dX3_mend_27 : decode cX3_mend 27 = .ok (.iload_n 2, 1) := by decide +kernel
theorem dX3_mend_28 : decode cX3_mend 28 = .ok (.invokevirtual 60, 3) := by decide +kernel
theorem dX3_mend_31 : decode cX3_mend 31 = .ok (.ifCond .ne 17, 3) := by decide +kernel
theorem dX3_mend_34 : decode cX3_mend 34 = .ok (.iload_n 2, 1) := by decide +kernel
theorem dX3_mend_35 : decode cX3_mend 35 = .ok (.ifCond .le 17, 3) := by decide +kernel
theorem dX3_mend_38 : decode cX3_mend 38 = .ok (.aload_n 0, 1) := by decide +kernel
theorem dX3_mend_39 : decode cX3_mend 39 = .ok (.aload_n 1, 1) := by decide +kernel
theorem dX3_mend_40 : decode cX3_mend 40 = .ok (.iconst 1, 1) := by decide +kernel
theorem dX3_mend_41 : decode cX3_mend 41 = .ok (.iload_n 2, 1) := by decide +kernel
theorem dX3_mend_42 : decode cX3_mend 42 = .ok (.invokevirtual 60, 3) := by decide +kernel
theorem dX3_mend_45 : decode cX3_mend 45 = .ok (.ifCond .eq 7, 3) := by decide +kernel
theorem dX3_mend_48 : decode cX3_mend 48 = .ok (.iconst 1, 1) := by decide +kernel
theorem dX3_mend_49 : decode cX3_mend 49 = .ok (.goto 4, 3) := by decide +kernel
theorem dX3_mend_52 : decode cX3_mend 52 = .ok (.iconst 0, 1) := by decide +kernel
theorem dX3_mend_53 : decode cX3_mend 53 = .ok (.istore_n 3, 1) := by decide +kernel
theorem dX3_mend_54 : decode cX3_mend 54 = .ok (.iload_n 3, 1) := by decide +kernel
theorem dX3_mend_55 : decode cX3_mend 55 = .ok (.ifCond .eq 17, 3) := by decide +kernel
theorem dX3_mend_58 : decode cX3_mend 58 = .ok (.aload_n 0, 1) := by decide +kernel
theorem dX3_mend_59 : decode cX3_mend 59 = .ok (.getfield 12, 3) := by decide +kernel
theorem dX3_mend_62 : decode cX3_mend 62 = .ok (.aload_n 1, 1) := by decide +kernel
theorem dX3_mend_63 : decode cX3_mend 63 = .ok (.getfield 64, 3) := by decide +kernel
theorem dX3_mend_66 : decode cX3_mend 66 = .ok (.invokevirtual 67, 3) := by decide +kernel
theorem dX3_mend_69 : decode cX3_mend 69 = .ok (.goto 5, 3) := by decide +kernel
theorem dX3_mend_72 : decode cX3_mend 72 = .ok (.bipush (-4), 2) := by decide +kernel
theorem dX3_mend_74 : decode cX3_mend 74 = .ok (.ireturn, 1) := by decide +kernel
theorem dX3_isMended_0 : decode cX3_isMended 0 = .ok (.iconst 0, 1) := by decide +kernel
theorem dX3_isMended_1 : decode cX3_isMended 1 = .ok (.istore 4, 2) := by decide +kernel
theorem dX3_isMended_3 : decode cX3_isMended 3 = .ok (.iload 4, 2) := by decide +kernel
theorem dX3_isMended_5 : decode cX3_isMended 5 = .ok (.bipush 34, 2) := by decide +kernel
theorem dX3_isMended_7 : decode cX3_isMended 7 = .ok (.if_icmp .ge 64, 3) := by decide +kernel
theorem dX3_isMended_10 : decode cX3_isMended 10 = .ok (.aload_n 1, 1) := by decide +kernel
theorem dX3_isMended_11 : decode cX3_isMended 11 = .ok (.getfield 45, 3) := by decide +kernel
theorem dX3_isMended_14 : decode cX3_isMended 14 = .ok (.getfield 71, 3) := by decide +kernel
theorem dX3_isMended_17 : decode cX3_isMended 17 = .ok (.iload 4, 2) := by decide +kernel
theorem dX3_isMended_19 : decode cX3_isMended 19 = .ok (.laload, 1) := by decide +kernel
theorem dX3_isMended_20 : decode cX3_isMended 20 = .ok (.lstore 5, 2) := by decide +kernel
theorem dX3_isMended_22 : decode cX3_isMended 22 = .ok (.aload_n 1, 1) := by decide +kernel
theorem dX3_isMended_23 : decode cX3_isMended 23 = .ok (.getfield 64, 3) := by decide +kernel
theorem dX3_isMended_26 : decode cX3_isMended 26 = .ok (.getfield 71, 3) := by decide +kernel
theorem dX3_isMended_29 : decode cX3_isMended 29 = .ok (.iload 4, 2) := by decide +kernel
theorem dX3_isMended_31 : decode cX3_isMended 31 = .ok (.laload, 1) := by decide +kernel
theorem dX3_isMended_32 : decode cX3_isMended 32 = .ok (.lstore 7, 2) := by decide +kernel
theorem dX3_isMended_34 : decode cX3_isMended 34 = .ok (.aload_n 0, 1) := by decide +kernel
theorem dX3_isMended_35 : decode cX3_isMended 35 = .ok (.getfield 12, 3) := by decide +kernel
theorem dX3_isMended_38 : decode cX3_isMended 38 = .ok (.getfield 71, 3) := by decide +kernel
theorem dX3_isMended_41 : decode cX3_isMended 41 = .ok (.iload 4, 2) := by decide +kernel
theorem dX3_isMended_43 : decode cX3_isMended 43 = .ok (.iload_n 2, 1) := by decide +kernel
theorem dX3_isMended_44 : decode cX3_isMended 44 = .ok (.ifCond .eq 11, 3) := by decide +kernel
theorem dX3_isMended_47 : decode cX3_isMended 47 = .ok (.lload 7, 2) := by decide +kernel
theorem dX3_isMended_49 : decode cX3_isMended 49 = .ok (.lload 5, 2) := by decide +kernel
theorem dX3_isMended_51 : decode cX3_isMended 51 = .ok (.lor, 1) := by decide +kernel
theorem dX3_isMended_52 : decode cX3_isMended 52 = .ok (.goto 12, 3) := by decide +kernel
theorem dX3_isMended_55 : decode cX3_isMended 55 = .ok (.lload 7, 2) := by decide +kernel
theorem dX3_isMended_57 : decode cX3_isMended 57 = .ok (.lload 5, 2) := by decide +kernel
theorem dX3_isMended_59 : decode cX3_isMended 59 = .ok (.ldc2_w 75, 3) := by decide +kernel
theorem dX3_isMended_62 : decode cX3_isMended 62 = .ok (.lxor, 1) := by decide +kernel
theorem dX3_isMended_63 : decode cX3_isMended 63 = .ok (.land, 1) := by decide +kernel
theorem dX3_isMended_64 : decode cX3_isMended 64 = .ok (.lastore, 1) := by decide +kernel
theorem dX3_isMended_65 : decode cX3_isMended 65 = .ok (.iinc 4 1, 3) := by decide +kernel
theorem dX3_isMended_68 : decode cX3_isMended 68 = .ok (.goto (-65), 3) := by decide +kernel
theorem dX3_isMended_71 : decode cX3_isMended 71 = .ok (.aload_n 0, 1) := by decide +kernel
theorem dX3_isMended_72 : decode cX3_isMended 72 = .ok (.invokevirtual 77, 3) := by decide +kernel
theorem dX3_isMended_75 : decode cX3_isMended 75 = .ok (.ifCond .eq 28, 3) := by decide +kernel
theorem dX3_isMended_78 : decode cX3_isMended 78 = .ok (.iconst 2, 1) := by decide +kernel
theorem dX3_isMended_79 : decode cX3_isMended 79 = .ok (.aload_n 0, 1) := by decide +kernel
theorem dX3_isMended_80 : decode cX3_isMended 80 = .ok (.aload_n 1, 1) := by decide +kernel
theorem dX3_isMended_81 : decode cX3_isMended 81 = .ok (.invokevirtual 81, 3) := by decide +kernel
theorem dX3_isMended_84 : decode cX3_isMended 84 = .ok (.imul, 1) := by decide +kernel
theorem dX3_isMended_85 : decode cX3_isMended 85 = .ok (.iload_n 3, 1) := by decide +kernel
theorem dX3_isMended_86 : decode cX3_isMended 86 = .ok (.iadd, 1) := by decide +kernel
theorem dX3_isMended_87 : decode cX3_isMended 87 = .ok (.iconst 2, 1) := by decide +kernel
theorem dX3_isMended_88 : decode cX3_isMended 88 = .ok (.aload_n 0, 1) := by decide +kernel
theorem dX3_isMended_89 : decode cX3_isMended 89 = .ok (.getfield 41, 3) := by decide +kernel
theorem dX3_isMended_92 : decode cX3_isMended 92 = .ok (.getfield 54, 3) := by decide +kernel
theorem dX3_isMended_95 : decode cX3_isMended 95 = .ok (.imul, 1) := by decide +kernel
theorem dX3_isMended_96 : decode cX3_isMended 96 = .ok (.if_icmp .gt 7, 3) := by decide +kernel
theorem dX3_isMended_99 : decode cX3_isMended 99 = .ok (.iconst 1, 1) := by decide +kernel
theorem dX3_isMended_100 : decode cX3_isMended 100 = .ok (.goto 4, 3) := by decide +kernel
theorem dX3_isMended_103 : decode cX3_isMended 103 = .ok (.iconst 0, 1) := by decide +kernel
theorem dX3_isMended_104 : decode cX3_isMended 104 = .ok (.ireturn, 1) := by decide +kernel
theorem dX3_apartBesidesMarks_0 : decode cX3_apartBesidesMarks 0 = .ok (.iconst 0, 1) := by decide +kernel
theorem dX3_apartBesidesMarks_1 : decode cX3_apartBesidesMarks 1 = .ok (.istore_n 2, 1) := by decide +kernel
theorem dX3_apartBesidesMarks_2 : decode cX3_apartBesidesMarks 2 = .ok (.iconst 0, 1) := by decide +kernel
theorem dX3_apartBesidesMarks_3 : decode cX3_apartBesidesMarks 3 = .ok (.istore_n 3, 1) := by decide +kernel
theorem dX3_apartBesidesMarks_4 : decode cX3_apartBesidesMarks 4 = .ok (.iload_n 3, 1) := by decide +kernel
theorem dX3_apartBesidesMarks_5 : decode cX3_apartBesidesMarks 5 = .ok (.bipush 34, 2) := by decide +kernel
theorem dX3_apartBesidesMarks_7 : decode cX3_apartBesidesMarks 7 = .ok (.if_icmp .ge 48, 3) := by decide +kernel
theorem dX3_apartBesidesMarks_10 : decode cX3_apartBesidesMarks 10 = .ok (.iload_n 2, 1) := by decide +kernel
theorem dX3_apartBesidesMarks_11 : decode cX3_apartBesidesMarks 11 = .ok (.aload_n 0, 1) := by decide +kernel
theorem dX3_apartBesidesMarks_12 : decode cX3_apartBesidesMarks 12 = .ok (.getfield 12, 3) := by decide +kernel
theorem dX3_apartBesidesMarks_15 : decode cX3_apartBesidesMarks 15 = .ok (.getfield 71, 3) := by decide +kernel
theorem dX3_apartBesidesMarks_18 : decode cX3_apartBesidesMarks 18 = .ok (.iload_n 3, 1) := by decide +kernel
theorem dX3_apartBesidesMarks_19 : decode cX3_apartBesidesMarks 19 = .ok (.laload, 1) := by decide +kernel
theorem dX3_apartBesidesMarks_20 : decode cX3_apartBesidesMarks 20 = .ok (.aload_n 1, 1) := by decide +kernel
theorem dX3_apartBesidesMarks_21 : decode cX3_apartBesidesMarks 21 = .ok (.getfield 64, 3) := by decide +kernel
theorem dX3_apartBesidesMarks_24 : decode cX3_apartBesidesMarks 24 = .ok (.getfield 71, 3) := by decide +kernel
theorem dX3_apartBesidesMarks_27 : decode cX3_apartBesidesMarks 27 = .ok (.iload_n 3, 1) := by decide +kernel
theorem dX3_apartBesidesMarks_28 : decode cX3_apartBesidesMarks 28 = .ok (.laload, 1) := by decide +kernel
theorem dX3_apartBesidesMarks_29 : decode cX3_apartBesidesMarks 29 = .ok (.lxor, 1) := by decide +kernel
theorem dX3_apartBesidesMarks_30 : decode cX3_apartBesidesMarks 30 = .ok (.aload_n 1, 1) := by decide +kernel
theorem dX3_apartBesidesMarks_31 : decode cX3_apartBesidesMarks 31 = .ok (.getfield 45, 3) := by decide +kernel
theorem dX3_apartBesidesMarks_34 : decode cX3_apartBesidesMarks 34 = .ok (.getfield 71, 3) := by decide +kernel
theorem dX3_apartBesidesMarks_37 : decode cX3_apartBesidesMarks 37 = .ok (.iload_n 3, 1) := by decide +kernel
theorem dX3_apartBesidesMarks_38 : decode cX3_apartBesidesMarks 38 = .ok (.laload, 1) := by decide +kernel
theorem dX3_apartBesidesMarks_39 : decode cX3_apartBesidesMarks 39 = .ok (.ldc2_w 75, 3) := by decide +kernel
theorem dX3_apartBesidesMarks_42 : decode cX3_apartBesidesMarks 42 = .ok (.lxor, 1) := by decide +kernel
theorem dX3_apartBesidesMarks_43 : decode cX3_apartBesidesMarks 43 = .ok (.land, 1) := by decide +kernel
theorem dX3_apartBesidesMarks_44 : decode cX3_apartBesidesMarks 44 = .ok (.invokestatic 85, 3) := by decide +kernel
theorem dX3_apartBesidesMarks_47 : decode cX3_apartBesidesMarks 47 = .ok (.iadd, 1) := by decide +kernel
theorem dX3_apartBesidesMarks_48 : decode cX3_apartBesidesMarks 48 = .ok (.istore_n 2, 1) := by decide +kernel
theorem dX3_apartBesidesMarks_49 : decode cX3_apartBesidesMarks 49 = .ok (.iinc 3 1, 3) := by decide +kernel
theorem dX3_apartBesidesMarks_52 : decode cX3_apartBesidesMarks 52 = .ok (.goto (-48), 3) := by decide +kernel
theorem dX3_apartBesidesMarks_55 : decode cX3_apartBesidesMarks 55 = .ok (.iload_n 2, 1) := by decide +kernel
theorem dX3_apartBesidesMarks_56 : decode cX3_apartBesidesMarks 56 = .ok (.ireturn, 1) := by decide +kernel
theorem dX3_becomesRight_0 : decode cX3_becomesRight 0 = .ok (.aload_n 0, 1) := by decide +kernel
theorem dX3_becomesRight_1 : decode cX3_becomesRight 1 = .ok (.getfield 41, 3) := by decide +kernel
theorem dX3_becomesRight_4 : decode cX3_becomesRight 4 = .ok (.aload_n 0, 1) := by decide +kernel
theorem dX3_becomesRight_5 : decode cX3_becomesRight 5 = .ok (.getfield 12, 3) := by decide +kernel
theorem dX3_becomesRight_8 : decode cX3_becomesRight 8 = .ok (.invokevirtual 91, 3) := by decide +kernel
theorem dX3_becomesRight_11 : decode cX3_becomesRight 11 = .ok (.ifCond .eq 5, 3) := by decide +kernel
theorem dX3_becomesRight_14 : decode cX3_becomesRight 14 = .ok (.iconst 1, 1) := by decide +kernel
theorem dX3_becomesRight_15 : decode cX3_becomesRight 15 = .ok (.ireturn, 1) := by decide +kernel
theorem dX3_becomesRight_16 : decode cX3_becomesRight 16 = .ok (.aload_n 0, 1) := by decide +kernel
theorem dX3_becomesRight_17 : decode cX3_becomesRight 17 = .ok (.invokevirtual 95, 3) := by decide +kernel
theorem dX3_becomesRight_20 : decode cX3_becomesRight 20 = .ok (.aload_n 0, 1) := by decide +kernel
theorem dX3_becomesRight_21 : decode cX3_becomesRight 21 = .ok (.invokevirtual 98, 3) := by decide +kernel
theorem dX3_becomesRight_24 : decode cX3_becomesRight 24 = .ok (.istore_n 1, 1) := by decide +kernel
theorem dX3_becomesRight_25 : decode cX3_becomesRight 25 = .ok (.iload_n 1, 1) := by decide +kernel
theorem dX3_becomesRight_26 : decode cX3_becomesRight 26 = .ok (.aload_n 0, 1) := by decide +kernel
theorem dX3_becomesRight_27 : decode cX3_becomesRight 27 = .ok (.getfield 41, 3) := by decide +kernel
theorem dX3_becomesRight_30 : decode cX3_becomesRight 30 = .ok (.getfield 54, 3) := by decide +kernel
theorem dX3_becomesRight_33 : decode cX3_becomesRight 33 = .ok (.if_icmp .gt 11, 3) := by decide +kernel
theorem dX3_becomesRight_36 : decode cX3_becomesRight 36 = .ok (.aload_n 0, 1) := by decide +kernel
theorem dX3_becomesRight_37 : decode cX3_becomesRight 37 = .ok (.iload_n 1, 1) := by decide +kernel
theorem dX3_becomesRight_38 : decode cX3_becomesRight 38 = .ok (.invokevirtual 101, 3) := by decide +kernel
theorem dX3_becomesRight_41 : decode cX3_becomesRight 41 = .ok (.ifCond .ne 5, 3) := by decide +kernel
theorem dX3_becomesRight_44 : decode cX3_becomesRight 44 = .ok (.iconst 0, 1) := by decide +kernel
theorem dX3_becomesRight_45 : decode cX3_becomesRight 45 = .ok (.ireturn, 1) := by decide +kernel
theorem dX3_becomesRight_46 : decode cX3_becomesRight 46 = .ok (.iconst 0, 1) := by decide +kernel
theorem dX3_becomesRight_47 : decode cX3_becomesRight 47 = .ok (.istore_n 2, 1) := by decide +kernel
theorem dX3_becomesRight_48 : decode cX3_becomesRight 48 = .ok (.iload_n 2, 1) := by decide +kernel
theorem dX3_becomesRight_49 : decode cX3_becomesRight 49 = .ok (.iload_n 1, 1) := by decide +kernel
theorem dX3_becomesRight_50 : decode cX3_becomesRight 50 = .ok (.if_icmp .ge 37, 3) := by decide +kernel
theorem dX3_becomesRight_53 : decode cX3_becomesRight 53 = .ok (.aload_n 0, 1) := by decide +kernel
theorem dX3_becomesRight_54 : decode cX3_becomesRight 54 = .ok (.getfield 12, 3) := by decide +kernel
theorem dX3_becomesRight_57 : decode cX3_becomesRight 57 = .ok (.aload_n 0, 1) := by decide +kernel
theorem dX3_becomesRight_58 : decode cX3_becomesRight 58 = .ok (.getfield 34, 3) := by decide +kernel
theorem dX3_becomesRight_61 : decode cX3_becomesRight 61 = .ok (.iload_n 2, 1) := by decide +kernel
theorem dX3_becomesRight_62 : decode cX3_becomesRight 62 = .ok (.iaload, 1) := by decide +kernel
theorem dX3_becomesRight_63 : decode cX3_becomesRight 63 = .ok (.iconst 1, 1) := by decide +kernel
theorem dX3_becomesRight_64 : decode cX3_becomesRight 64 = .ok (.aload_n 0, 1) := by decide +kernel
theorem dX3_becomesRight_65 : decode cX3_becomesRight 65 = .ok (.getfield 12, 3) := by decide +kernel
theorem dX3_becomesRight_68 : decode cX3_becomesRight 68 = .ok (.aload_n 0, 1) := by decide +kernel
theorem dX3_becomesRight_69 : decode cX3_becomesRight 69 = .ok (.getfield 34, 3) := by decide +kernel
theorem dX3_becomesRight_72 : decode cX3_becomesRight 72 = .ok (.iload_n 2, 1) := by decide +kernel
theorem dX3_becomesRight_73 : decode cX3_becomesRight 73 = .ok (.iaload, 1) := by decide +kernel
theorem dX3_becomesRight_74 : decode cX3_becomesRight 74 = .ok (.invokevirtual 105, 3) := by decide +kernel
theorem dX3_becomesRight_77 : decode cX3_becomesRight 77 = .ok (.isub, 1) := by decide +kernel
theorem dX3_becomesRight_78 : decode cX3_becomesRight 78 = .ok (.invokevirtual 109, 3) := by decide +kernel
theorem dX3_becomesRight_81 : decode cX3_becomesRight 81 = .ok (.iinc 2 1, 3) := by decide +kernel
theorem dX3_becomesRight_84 : decode cX3_becomesRight 84 = .ok (.goto (-36), 3) := by decide +kernel
theorem dX3_becomesRight_87 : decode cX3_becomesRight 87 = .ok (.iconst 1, 1) := by decide +kernel
theorem dX3_becomesRight_88 : decode cX3_becomesRight 88 = .ok (.ireturn, 1) := by decide +kernel
theorem dX3_takeSyndromes_0 : decode cX3_takeSyndromes 0 = .ok (.iconst 1, 1) := by decide +kernel
theorem dX3_takeSyndromes_1 : decode cX3_takeSyndromes 1 = .ok (.istore_n 1, 1) := by decide +kernel
theorem dX3_takeSyndromes_2 : decode cX3_takeSyndromes 2 = .ok (.iload_n 1, 1) := by decide +kernel
theorem dX3_takeSyndromes_3 : decode cX3_takeSyndromes 3 = .ok (.iconst 2, 1) := by decide +kernel
theorem dX3_takeSyndromes_4 : decode cX3_takeSyndromes 4 = .ok (.aload_n 0, 1) := by decide +kernel
theorem dX3_takeSyndromes_5 : decode cX3_takeSyndromes 5 = .ok (.getfield 41, 3) := by decide +kernel
theorem dX3_takeSyndromes_8 : decode cX3_takeSyndromes 8 = .ok (.getfield 54, 3) := by decide +kernel
theorem dX3_takeSyndromes_11 : decode cX3_takeSyndromes 11 = .ok (.imul, 1) := by decide +kernel
theorem dX3_takeSyndromes_12 : decode cX3_takeSyndromes 12 = .ok (.if_icmp .gt 51, 3) := by decide +kernel
theorem dX3_takeSyndromes_15 : decode cX3_takeSyndromes 15 = .ok (.aload_n 0, 1) := by decide +kernel
theorem dX3_takeSyndromes_16 : decode cX3_takeSyndromes 16 = .ok (.getfield 18, 3) := by decide +kernel
theorem dX3_takeSyndromes_19 : decode cX3_takeSyndromes 19 = .ok (.iload_n 1, 1) := by decide +kernel
theorem dX3_takeSyndromes_20 : decode cX3_takeSyndromes 20 = .ok (.iconst 1, 1) := by decide +kernel
theorem dX3_takeSyndromes_21 : decode cX3_takeSyndromes 21 = .ok (.ishr, 1) := by decide +kernel
theorem dX3_takeSyndromes_22 : decode cX3_takeSyndromes 22 = .ok (.iaload, 1) := by decide +kernel
theorem dX3_takeSyndromes_23 : decode cX3_takeSyndromes 23 = .ok (.istore_n 2, 1) := by decide +kernel
theorem dX3_takeSyndromes_24 : decode cX3_takeSyndromes 24 = .ok (.aload_n 0, 1) := by decide +kernel
theorem dX3_takeSyndromes_25 : decode cX3_takeSyndromes 25 = .ok (.getfield 18, 3) := by decide +kernel
theorem dX3_takeSyndromes_28 : decode cX3_takeSyndromes 28 = .ok (.iload_n 1, 1) := by decide +kernel
theorem dX3_takeSyndromes_29 : decode cX3_takeSyndromes 29 = .ok (.iload_n 1, 1) := by decide +kernel
theorem dX3_takeSyndromes_30 : decode cX3_takeSyndromes 30 = .ok (.iconst 1, 1) := by decide +kernel
theorem dX3_takeSyndromes_31 : decode cX3_takeSyndromes 31 = .ok (.iand, 1) := by decide +kernel
theorem dX3_takeSyndromes_32 : decode cX3_takeSyndromes 32 = .ok (.iconst 1, 1) := by decide +kernel
theorem dX3_takeSyndromes_33 : decode cX3_takeSyndromes 33 = .ok (.if_icmp .ne 14, 3) := by decide +kernel
theorem dX3_takeSyndromes_36 : decode cX3_takeSyndromes 36 = .ok (.aload_n 0, 1) := by decide +kernel
theorem dX3_takeSyndromes_37 : decode cX3_takeSyndromes 37 = .ok (.getfield 41, 3) := by decide +kernel
theorem dX3_takeSyndromes_40 : decode cX3_takeSyndromes 40 = .ok (.iload_n 1, 1) := by decide +kernel
theorem dX3_takeSyndromes_41 : decode cX3_takeSyndromes 41 = .ok (.invokevirtual 113, 3) := by decide +kernel
theorem dX3_takeSyndromes_44 : decode cX3_takeSyndromes 44 = .ok (.goto 12, 3) := by decide +kernel
theorem dX3_takeSyndromes_47 : decode cX3_takeSyndromes 47 = .ok (.aload_n 0, 1) := by decide +kernel
theorem dX3_takeSyndromes_48 : decode cX3_takeSyndromes 48 = .ok (.getfield 37, 3) := by decide +kernel
theorem dX3_takeSyndromes_51 : decode cX3_takeSyndromes 51 = .ok (.iload_n 2, 1) := by decide +kernel
theorem dX3_takeSyndromes_52 : decode cX3_takeSyndromes 52 = .ok (.iload_n 2, 1) := by decide +kernel
theorem dX3_takeSyndromes_53 : decode cX3_takeSyndromes 53 = .ok (.invokevirtual 116, 3) := by decide +kernel
theorem dX3_takeSyndromes_56 : decode cX3_takeSyndromes 56 = .ok (.iastore, 1) := by decide +kernel
theorem dX3_takeSyndromes_57 : decode cX3_takeSyndromes 57 = .ok (.iinc 1 1, 3) := by decide +kernel
theorem dX3_takeSyndromes_60 : decode cX3_takeSyndromes 60 = .ok (.goto (-58), 3) := by decide +kernel
theorem dX3_takeSyndromes_63 : decode cX3_takeSyndromes 63 = .ok (.return_, 1) := by decide +kernel
theorem dX3_locate_0 : decode cX3_locate 0 = .ok (.aload_n 0, 1) := by decide +kernel
theorem dX3_locate_1 : decode cX3_locate 1 = .ok (.getfield 22, 3) := by decide +kernel
theorem dX3_locate_4 : decode cX3_locate 4 = .ok (.iconst 0, 1) := by decide +kernel
theorem dX3_locate_5 : decode cX3_locate 5 = .ok (.invokestatic 122, 3) := by decide +kernel
theorem dX3_locate_8 : decode cX3_locate 8 = .ok (.aload_n 0, 1) := by decide +kernel
theorem dX3_locate_9 : decode cX3_locate 9 = .ok (.getfield 25, 3) := by decide +kernel
theorem dX3_locate_12 : decode cX3_locate 12 = .ok (.iconst 0, 1) := by decide +kernel
theorem dX3_locate_13 : decode cX3_locate 13 = .ok (.invokestatic 122, 3) := by decide +kernel
theorem dX3_locate_16 : decode cX3_locate 16 = .ok (.aload_n 0, 1) := by decide +kernel
theorem dX3_locate_17 : decode cX3_locate 17 = .ok (.getfield 22, 3) := by decide +kernel
theorem dX3_locate_20 : decode cX3_locate 20 = .ok (.iconst 0, 1) := by decide +kernel
theorem dX3_locate_21 : decode cX3_locate 21 = .ok (.iconst 1, 1) := by decide +kernel
theorem dX3_locate_22 : decode cX3_locate 22 = .ok (.iastore, 1) := by decide +kernel
theorem dX3_locate_23 : decode cX3_locate 23 = .ok (.aload_n 0, 1) := by decide +kernel
theorem dX3_locate_24 : decode cX3_locate 24 = .ok (.getfield 25, 3) := by decide +kernel
theorem dX3_locate_27 : decode cX3_locate 27 = .ok (.iconst 0, 1) := by decide +kernel
theorem dX3_locate_28 : decode cX3_locate 28 = .ok (.iconst 1, 1) := by decide +kernel
theorem dX3_locate_29 : decode cX3_locate 29 = .ok (.iastore, 1) := by decide +kernel
theorem dX3_locate_30 : decode cX3_locate 30 = .ok (.iconst 0, 1) := by decide +kernel
theorem dX3_locate_31 : decode cX3_locate 31 = .ok (.istore_n 1, 1) := by decide +kernel
theorem dX3_locate_32 : decode cX3_locate 32 = .ok (.iconst 1, 1) := by decide +kernel
theorem dX3_locate_33 : decode cX3_locate 33 = .ok (.istore_n 2, 1) := by decide +kernel
theorem dX3_locate_34 : decode cX3_locate 34 = .ok (.iconst 1, 1) := by decide +kernel
theorem dX3_locate_35 : decode cX3_locate 35 = .ok (.istore_n 3, 1) := by decide +kernel
theorem dX3_locate_36 : decode cX3_locate 36 = .ok (.iconst 0, 1) := by decide +kernel
theorem dX3_locate_37 : decode cX3_locate 37 = .ok (.istore 4, 2) := by decide +kernel
theorem dX3_locate_39 : decode cX3_locate 39 = .ok (.iload 4, 2) := by decide +kernel
theorem dX3_locate_41 : decode cX3_locate 41 = .ok (.iconst 2, 1) := by decide +kernel
theorem dX3_locate_42 : decode cX3_locate 42 = .ok (.aload_n 0, 1) := by decide +kernel
theorem dX3_locate_43 : decode cX3_locate 43 = .ok (.getfield 41, 3) := by decide +kernel
theorem dX3_locate_46 : decode cX3_locate 46 = .ok (.getfield 54, 3) := by decide +kernel
theorem dX3_locate_49 : decode cX3_locate 49 = .ok (.imul, 1) := by decide +kernel
theorem dX3_locate_50 : decode cX3_locate 50 = .ok (.if_icmp .ge 119, 3) := by decide +kernel
theorem dX3_locate_53 : decode cX3_locate 53 = .ok (.aload_n 0, 1) := by decide +kernel
theorem dX3_locate_54 : decode cX3_locate 54 = .ok (.iload 4, 2) := by decide +kernel
theorem dX3_locate_56 : decode cX3_locate 56 = .ok (.iconst 1, 1) := by decide +kernel
theorem dX3_locate_57 : decode cX3_locate 57 = .ok (.iadd, 1) := by decide +kernel
theorem dX3_locate_58 : decode cX3_locate 58 = .ok (.iload_n 1, 1) := by decide +kernel
theorem dX3_locate_59 : decode cX3_locate 59 = .ok (.invokevirtual 128, 3) := by decide +kernel
theorem dX3_locate_62 : decode cX3_locate 62 = .ok (.istore 5, 2) := by decide +kernel
theorem dX3_locate_64 : decode cX3_locate 64 = .ok (.iload 5, 2) := by decide +kernel
theorem dX3_locate_66 : decode cX3_locate 66 = .ok (.ifCond .ne 9, 3) := by decide +kernel
theorem dX3_locate_69 : decode cX3_locate 69 = .ok (.iinc 2 1, 3) := by decide +kernel
theorem dX3_locate_72 : decode cX3_locate 72 = .ok (.goto 91, 3) := by decide +kernel
theorem dX3_locate_75 : decode cX3_locate 75 = .ok (.aload_n 0, 1) := by decide +kernel
theorem dX3_locate_76 : decode cX3_locate 76 = .ok (.getfield 37, 3) := by decide +kernel
theorem dX3_locate_79 : decode cX3_locate 79 = .ok (.iload 5, 2) := by decide +kernel
theorem dX3_locate_81 : decode cX3_locate 81 = .ok (.aload_n 0, 1) := by decide +kernel
theorem dX3_locate_82 : decode cX3_locate 82 = .ok (.getfield 37, 3) := by decide +kernel
theorem dX3_locate_85 : decode cX3_locate 85 = .ok (.iload_n 3, 1) := by decide +kernel
theorem dX3_locate_86 : decode cX3_locate 86 = .ok (.invokevirtual 131, 3) := by decide +kernel
theorem dX3_locate_89 : decode cX3_locate 89 = .ok (.invokevirtual 116, 3) := by decide +kernel
theorem dX3_locate_92 : decode cX3_locate 92 = .ok (.istore 6, 2) := by decide +kernel
theorem dX3_locate_94 : decode cX3_locate 94 = .ok (.aload_n 0, 1) := by decide +kernel
theorem dX3_locate_95 : decode cX3_locate 95 = .ok (.getfield 22, 3) := by decide +kernel
theorem dX3_locate_98 : decode cX3_locate 98 = .ok (.iconst 0, 1) := by decide +kernel
theorem dX3_locate_99 : decode cX3_locate 99 = .ok (.aload_n 0, 1) := by decide +kernel
theorem dX3_locate_100 : decode cX3_locate 100 = .ok (.getfield 28, 3) := by decide +kernel
theorem dX3_locate_103 : decode cX3_locate 103 = .ok (.iconst 0, 1) := by decide +kernel
theorem dX3_locate_104 : decode cX3_locate 104 = .ok (.aload_n 0, 1) := by decide +kernel
theorem dX3_locate_105 : decode cX3_locate 105 = .ok (.getfield 28, 3) := by decide +kernel
theorem dX3_locate_108 : decode cX3_locate 108 = .ok (.arraylength, 1) := by decide +kernel
theorem dX3_locate_109 : decode cX3_locate 109 = .ok (.invokestatic 134, 3) := by decide +kernel
theorem dX3_locate_112 : decode cX3_locate 112 = .ok (.aload_n 0, 1) := by decide +kernel
theorem dX3_locate_113 : decode cX3_locate 113 = .ok (.iload 6, 2) := by decide +kernel
theorem dX3_locate_115 : decode cX3_locate 115 = .ok (.iload_n 2, 1) := by decide +kernel
theorem dX3_locate_116 : decode cX3_locate 116 = .ok (.invokevirtual 140, 3) := by decide +kernel
theorem dX3_locate_119 : decode cX3_locate 119 = .ok (.iconst 2, 1) := by decide +kernel
theorem dX3_locate_120 : decode cX3_locate 120 = .ok (.iload_n 1, 1) := by decide +kernel
theorem dX3_locate_121 : decode cX3_locate 121 = .ok (.imul, 1) := by decide +kernel
theorem dX3_locate_122 : decode cX3_locate 122 = .ok (.iload 4, 2) := by decide +kernel
theorem dX3_locate_124 : decode cX3_locate 124 = .ok (.if_icmp .gt 36, 3) := by decide +kernel
theorem dX3_locate_127 : decode cX3_locate 127 = .ok (.iload 4, 2) := by decide +kernel
theorem dX3_locate_129 : decode cX3_locate 129 = .ok (.iconst 1, 1) := by decide +kernel
theorem dX3_locate_130 : decode cX3_locate 130 = .ok (.iadd, 1) := by decide +kernel
theorem dX3_locate_131 : decode cX3_locate 131 = .ok (.iload_n 1, 1) := by decide +kernel
theorem dX3_locate_132 : decode cX3_locate 132 = .ok (.isub, 1) := by decide +kernel
theorem dX3_locate_133 : decode cX3_locate 133 = .ok (.istore_n 1, 1) := by decide +kernel
theorem dX3_locate_134 : decode cX3_locate 134 = .ok (.aload_n 0, 1) := by decide +kernel
theorem dX3_locate_135 : decode cX3_locate 135 = .ok (.getfield 28, 3) := by decide +kernel
theorem dX3_locate_138 : decode cX3_locate 138 = .ok (.iconst 0, 1) := by decide +kernel
theorem dX3_locate_139 : decode cX3_locate 139 = .ok (.aload_n 0, 1) := by decide +kernel
theorem dX3_locate_140 : decode cX3_locate 140 = .ok (.getfield 25, 3) := by decide +kernel
theorem dX3_locate_143 : decode cX3_locate 143 = .ok (.iconst 0, 1) := by decide +kernel
theorem dX3_locate_144 : decode cX3_locate 144 = .ok (.aload_n 0, 1) := by decide +kernel
theorem dX3_locate_145 : decode cX3_locate 145 = .ok (.getfield 28, 3) := by decide +kernel
theorem dX3_locate_148 : decode cX3_locate 148 = .ok (.arraylength, 1) := by decide +kernel
theorem dX3_locate_149 : decode cX3_locate 149 = .ok (.invokestatic 134, 3) := by decide +kernel
theorem dX3_locate_152 : decode cX3_locate 152 = .ok (.iload 5, 2) := by decide +kernel
theorem dX3_locate_154 : decode cX3_locate 154 = .ok (.istore_n 3, 1) := by decide +kernel
theorem dX3_locate_155 : decode cX3_locate 155 = .ok (.iconst 1, 1) := by decide +kernel
theorem dX3_locate_156 : decode cX3_locate 156 = .ok (.istore_n 2, 1) := by decide +kernel
theorem dX3_locate_157 : decode cX3_locate 157 = .ok (.goto 6, 3) := by decide +kernel
theorem dX3_locate_160 : decode cX3_locate 160 = .ok (.iinc 2 1, 3) := by decide +kernel
theorem dX3_locate_163 : decode cX3_locate 163 = .ok (.iinc 4 1, 3) := by decide +kernel
theorem dX3_locate_166 : decode cX3_locate 166 = .ok (.goto (-127), 3) := by decide +kernel
theorem dX3_locate_169 : decode cX3_locate 169 = .ok (.iload_n 1, 1) := by decide +kernel
theorem dX3_locate_170 : decode cX3_locate 170 = .ok (.ireturn, 1) := by decide +kernel
theorem dX3_missAt_0 : decode cX3_missAt 0 = .ok (.aload_n 0, 1) := by decide +kernel
theorem dX3_missAt_1 : decode cX3_missAt 1 = .ok (.getfield 18, 3) := by decide +kernel
theorem dX3_missAt_4 : decode cX3_missAt 4 = .ok (.iload_n 1, 1) := by decide +kernel
theorem dX3_missAt_5 : decode cX3_missAt 5 = .ok (.iaload, 1) := by decide +kernel
theorem dX3_missAt_6 : decode cX3_missAt 6 = .ok (.istore_n 3, 1) := by decide +kernel
theorem dX3_missAt_7 : decode cX3_missAt 7 = .ok (.iconst 1, 1) := by decide +kernel
theorem dX3_missAt_8 : decode cX3_missAt 8 = .ok (.istore 4, 2) := by decide +kernel
theorem dX3_missAt_10 : decode cX3_missAt 10 = .ok (.iload 4, 2) := by decide +kernel
theorem dX3_missAt_12 : decode cX3_missAt 12 = .ok (.iload_n 2, 1) := by decide +kernel
theorem dX3_missAt_13 : decode cX3_missAt 13 = .ok (.if_icmp .gt 41, 3) := by decide +kernel
theorem dX3_missAt_16 : decode cX3_missAt 16 = .ok (.iload 4, 2) := by decide +kernel
theorem dX3_missAt_18 : decode cX3_missAt 18 = .ok (.iload_n 1, 1) := by decide +kernel
theorem dX3_missAt_19 : decode cX3_missAt 19 = .ok (.if_icmp .ge 35, 3) := by decide +kernel
theorem dX3_missAt_22 : decode cX3_missAt 22 = .ok (.iload_n 3, 1) := by decide +kernel
theorem dX3_missAt_23 : decode cX3_missAt 23 = .ok (.aload_n 0, 1) := by decide +kernel
theorem dX3_missAt_24 : decode cX3_missAt 24 = .ok (.getfield 37, 3) := by decide +kernel
theorem dX3_missAt_27 : decode cX3_missAt 27 = .ok (.aload_n 0, 1) := by decide +kernel
theorem dX3_missAt_28 : decode cX3_missAt 28 = .ok (.getfield 22, 3) := by decide +kernel
theorem dX3_missAt_31 : decode cX3_missAt 31 = .ok (.iload 4, 2) := by decide +kernel
theorem dX3_missAt_33 : decode cX3_missAt 33 = .ok (.iaload, 1) := by decide +kernel
theorem dX3_missAt_34 : decode cX3_missAt 34 = .ok (.aload_n 0, 1) := by decide +kernel
theorem dX3_missAt_35 : decode cX3_missAt 35 = .ok (.getfield 18, 3) := by decide +kernel
theorem dX3_missAt_38 : decode cX3_missAt 38 = .ok (.iload_n 1, 1) := by decide +kernel
theorem dX3_missAt_39 : decode cX3_missAt 39 = .ok (.iload 4, 2) := by decide +kernel
theorem dX3_missAt_41 : decode cX3_missAt 41 = .ok (.isub, 1) := by decide +kernel
theorem dX3_missAt_42 : decode cX3_missAt 42 = .ok (.iaload, 1) := by decide +kernel
theorem dX3_missAt_43 : decode cX3_missAt 43 = .ok (.invokevirtual 116, 3) := by decide +kernel
theorem dX3_missAt_46 : decode cX3_missAt 46 = .ok (.ixor, 1) := by decide +kernel
theorem dX3_missAt_47 : decode cX3_missAt 47 = .ok (.istore_n 3, 1) := by decide +kernel
theorem dX3_missAt_48 : decode cX3_missAt 48 = .ok (.iinc 4 1, 3) := by decide +kernel
theorem dX3_missAt_51 : decode cX3_missAt 51 = .ok (.goto (-41), 3) := by decide +kernel
theorem dX3_missAt_54 : decode cX3_missAt 54 = .ok (.iload_n 3, 1) := by decide +kernel
theorem dX3_missAt_55 : decode cX3_missAt 55 = .ok (.ireturn, 1) := by decide +kernel
theorem dX3_addEarlier_0 : decode cX3_addEarlier 0 = .ok (.iload_n 2, 1) := by decide +kernel
theorem dX3_addEarlier_1 : decode cX3_addEarlier 1 = .ok (.istore_n 3, 1) := by decide +kernel
theorem dX3_addEarlier_2 : decode cX3_addEarlier 2 = .ok (.iload_n 3, 1) := by decide +kernel
theorem dX3_addEarlier_3 : decode cX3_addEarlier 3 = .ok (.aload_n 0, 1) := by decide +kernel
theorem dX3_addEarlier_4 : decode cX3_addEarlier 4 = .ok (.getfield 22, 3) := by decide +kernel
theorem dX3_addEarlier_7 : decode cX3_addEarlier 7 = .ok (.arraylength, 1) := by decide +kernel
theorem dX3_addEarlier_8 : decode cX3_addEarlier 8 = .ok (.if_icmp .ge 34, 3) := by decide +kernel
theorem dX3_addEarlier_11 : decode cX3_addEarlier 11 = .ok (.aload_n 0, 1) := by decide +kernel
theorem dX3_addEarlier_12 : decode cX3_addEarlier 12 = .ok (.getfield 22, 3) := by decide +kernel
theorem dX3_addEarlier_15 : decode cX3_addEarlier 15 = .ok (.iload_n 3, 1) := by decide +kernel
theorem dX3_addEarlier_16 : decode cX3_addEarlier 16 = .ok (.dup2, 1) := by decide +kernel
theorem dX3_addEarlier_17 : decode cX3_addEarlier 17 = .ok (.iaload, 1) := by decide +kernel
theorem dX3_addEarlier_18 : decode cX3_addEarlier 18 = .ok (.aload_n 0, 1) := by decide +kernel
theorem dX3_addEarlier_19 : decode cX3_addEarlier 19 = .ok (.getfield 37, 3) := by decide +kernel
theorem dX3_addEarlier_22 : decode cX3_addEarlier 22 = .ok (.iload_n 1, 1) := by decide +kernel
theorem dX3_addEarlier_23 : decode cX3_addEarlier 23 = .ok (.aload_n 0, 1) := by decide +kernel
theorem dX3_addEarlier_24 : decode cX3_addEarlier 24 = .ok (.getfield 25, 3) := by decide +kernel
theorem dX3_addEarlier_27 : decode cX3_addEarlier 27 = .ok (.iload_n 3, 1) := by decide +kernel
theorem dX3_addEarlier_28 : decode cX3_addEarlier 28 = .ok (.iload_n 2, 1) := by decide +kernel
theorem dX3_addEarlier_29 : decode cX3_addEarlier 29 = .ok (.isub, 1) := by decide +kernel
theorem dX3_addEarlier_30 : decode cX3_addEarlier 30 = .ok (.iaload, 1) := by decide +kernel
theorem dX3_addEarlier_31 : decode cX3_addEarlier 31 = .ok (.invokevirtual 116, 3) := by decide +kernel
theorem dX3_addEarlier_34 : decode cX3_addEarlier 34 = .ok (.ixor, 1) := by decide +kernel
theorem dX3_addEarlier_35 : decode cX3_addEarlier 35 = .ok (.iastore, 1) := by decide +kernel
theorem dX3_addEarlier_36 : decode cX3_addEarlier 36 = .ok (.iinc 3 1, 3) := by decide +kernel
theorem dX3_addEarlier_39 : decode cX3_addEarlier 39 = .ok (.goto (-37), 3) := by decide +kernel
theorem dX3_addEarlier_42 : decode cX3_addEarlier 42 = .ok (.return_, 1) := by decide +kernel
theorem dX3_findWrong_0 : decode cX3_findWrong 0 = .ok (.iconst 1, 1) := by decide +kernel
theorem dX3_findWrong_1 : decode cX3_findWrong 1 = .ok (.istore_n 2, 1) := by decide +kernel
theorem dX3_findWrong_2 : decode cX3_findWrong 2 = .ok (.iload_n 2, 1) := by decide +kernel
theorem dX3_findWrong_3 : decode cX3_findWrong 3 = .ok (.iload_n 1, 1) := by decide +kernel
theorem dX3_findWrong_4 : decode cX3_findWrong 4 = .ok (.if_icmp .gt 64, 3) := by decide +kernel
theorem dX3_findWrong_7 : decode cX3_findWrong 7 = .ok (.aload_n 0, 1) := by decide +kernel
theorem dX3_findWrong_8 : decode cX3_findWrong 8 = .ok (.getfield 31, 3) := by decide +kernel
theorem dX3_findWrong_11 : decode cX3_findWrong 11 = .ok (.iload_n 2, 1) := by decide +kernel
theorem dX3_findWrong_12 : decode cX3_findWrong 12 = .ok (.aload_n 0, 1) := by decide +kernel
theorem dX3_findWrong_13 : decode cX3_findWrong 13 = .ok (.getfield 22, 3) := by decide +kernel
theorem dX3_findWrong_16 : decode cX3_findWrong 16 = .ok (.iload_n 2, 1) := by decide +kernel
theorem dX3_findWrong_17 : decode cX3_findWrong 17 = .ok (.iaload, 1) := by decide +kernel
theorem dX3_findWrong_18 : decode cX3_findWrong 18 = .ok (.ifCond .ne 7, 3) := by decide +kernel
theorem dX3_findWrong_21 : decode cX3_findWrong 21 = .ok (.iconst (-1), 1) := by decide +kernel
theorem dX3_findWrong_22 : decode cX3_findWrong 22 = .ok (.goto 39, 3) := by decide +kernel
theorem dX3_findWrong_25 : decode cX3_findWrong 25 = .ok (.aload_n 0, 1) := by decide +kernel
theorem dX3_findWrong_26 : decode cX3_findWrong 26 = .ok (.getfield 37, 3) := by decide +kernel
theorem dX3_findWrong_29 : decode cX3_findWrong 29 = .ok (.getfield 143, 3) := by decide +kernel
theorem dX3_findWrong_32 : decode cX3_findWrong 32 = .ok (.aload_n 0, 1) := by decide +kernel
theorem dX3_findWrong_33 : decode cX3_findWrong 33 = .ok (.getfield 22, 3) := by decide +kernel
theorem dX3_findWrong_36 : decode cX3_findWrong 36 = .ok (.iload_n 2, 1) := by decide +kernel
theorem dX3_findWrong_37 : decode cX3_findWrong 37 = .ok (.iaload, 1) := by decide +kernel
theorem dX3_findWrong_38 : decode cX3_findWrong 38 = .ok (.iaload, 1) := by decide +kernel
theorem dX3_findWrong_39 : decode cX3_findWrong 39 = .ok (.iload_n 2, 1) := by decide +kernel
theorem dX3_findWrong_40 : decode cX3_findWrong 40 = .ok (.aload_n 0, 1) := by decide +kernel
theorem dX3_findWrong_41 : decode cX3_findWrong 41 = .ok (.getfield 41, 3) := by decide +kernel
theorem dX3_findWrong_44 : decode cX3_findWrong 44 = .ok (.getfield 144, 3) := by decide +kernel
theorem dX3_findWrong_47 : decode cX3_findWrong 47 = .ok (.iconst 1, 1) := by decide +kernel
theorem dX3_findWrong_48 : decode cX3_findWrong 48 = .ok (.isub, 1) := by decide +kernel
theorem dX3_findWrong_49 : decode cX3_findWrong 49 = .ok (.imul, 1) := by decide +kernel
theorem dX3_findWrong_50 : decode cX3_findWrong 50 = .ok (.isub, 1) := by decide +kernel
theorem dX3_findWrong_51 : decode cX3_findWrong 51 = .ok (.aload_n 0, 1) := by decide +kernel
theorem dX3_findWrong_52 : decode cX3_findWrong 52 = .ok (.getfield 37, 3) := by decide +kernel
theorem dX3_findWrong_55 : decode cX3_findWrong 55 = .ok (.getfield 147, 3) := by decide +kernel
theorem dX3_findWrong_58 : decode cX3_findWrong 58 = .ok (.invokestatic 150, 3) := by decide +kernel
theorem dX3_findWrong_61 : decode cX3_findWrong 61 = .ok (.iastore, 1) := by decide +kernel
theorem dX3_findWrong_62 : decode cX3_findWrong 62 = .ok (.iinc 2 1, 3) := by decide +kernel
theorem dX3_findWrong_65 : decode cX3_findWrong 65 = .ok (.goto (-63), 3) := by decide +kernel
theorem dX3_findWrong_68 : decode cX3_findWrong 68 = .ok (.iconst 0, 1) := by decide +kernel
theorem dX3_findWrong_69 : decode cX3_findWrong 69 = .ok (.istore_n 2, 1) := by decide +kernel
theorem dX3_findWrong_70 : decode cX3_findWrong 70 = .ok (.iconst 0, 1) := by decide +kernel
theorem dX3_findWrong_71 : decode cX3_findWrong 71 = .ok (.istore_n 3, 1) := by decide +kernel
theorem dX3_findWrong_72 : decode cX3_findWrong 72 = .ok (.iload_n 3, 1) := by decide +kernel
theorem dX3_findWrong_73 : decode cX3_findWrong 73 = .ok (.aload_n 0, 1) := by decide +kernel
theorem dX3_findWrong_74 : decode cX3_findWrong 74 = .ok (.getfield 41, 3) := by decide +kernel
theorem dX3_findWrong_77 : decode cX3_findWrong 77 = .ok (.getfield 144, 3) := by decide +kernel
theorem dX3_findWrong_80 : decode cX3_findWrong 80 = .ok (.if_icmp .ge 32, 3) := by decide +kernel
theorem dX3_findWrong_83 : decode cX3_findWrong 83 = .ok (.iload_n 2, 1) := by decide +kernel
theorem dX3_findWrong_84 : decode cX3_findWrong 84 = .ok (.iload_n 1, 1) := by decide +kernel
theorem dX3_findWrong_85 : decode cX3_findWrong 85 = .ok (.if_icmp .ge 27, 3) := by decide +kernel
theorem dX3_findWrong_88 : decode cX3_findWrong 88 = .ok (.aload_n 0, 1) := by decide +kernel
theorem dX3_findWrong_89 : decode cX3_findWrong 89 = .ok (.iload_n 1, 1) := by decide +kernel
theorem dX3_findWrong_90 : decode cX3_findWrong 90 = .ok (.invokevirtual 155, 3) := by decide +kernel
theorem dX3_findWrong_93 : decode cX3_findWrong 93 = .ok (.ifCond .eq 13, 3) := by decide +kernel
theorem dX3_findWrong_96 : decode cX3_findWrong 96 = .ok (.aload_n 0, 1) := by decide +kernel
theorem dX3_findWrong_97 : decode cX3_findWrong 97 = .ok (.getfield 34, 3) := by decide +kernel
theorem dX3_findWrong_100 : decode cX3_findWrong 100 = .ok (.iload_n 2, 1) := by decide +kernel
theorem dX3_findWrong_101 : decode cX3_findWrong 101 = .ok (.iload_n 3, 1) := by decide +kernel
theorem dX3_findWrong_102 : decode cX3_findWrong 102 = .ok (.iastore, 1) := by decide +kernel
theorem dX3_findWrong_103 : decode cX3_findWrong 103 = .ok (.iinc 2 1, 3) := by decide +kernel
theorem dX3_findWrong_106 : decode cX3_findWrong 106 = .ok (.iinc 3 1, 3) := by decide +kernel
theorem dX3_findWrong_109 : decode cX3_findWrong 109 = .ok (.goto (-37), 3) := by decide +kernel
theorem dX3_findWrong_112 : decode cX3_findWrong 112 = .ok (.iload_n 2, 1) := by decide +kernel
theorem dX3_findWrong_113 : decode cX3_findWrong 113 = .ok (.iload_n 1, 1) := by decide +kernel
theorem dX3_findWrong_114 : decode cX3_findWrong 114 = .ok (.if_icmp .ne 7, 3) := by decide +kernel
theorem dX3_findWrong_117 : decode cX3_findWrong 117 = .ok (.iconst 1, 1) := by decide +kernel
theorem dX3_findWrong_118 : decode cX3_findWrong 118 = .ok (.goto 4, 3) := by decide +kernel
theorem dX3_findWrong_121 : decode cX3_findWrong 121 = .ok (.iconst 0, 1) := by decide +kernel
theorem dX3_findWrong_122 : decode cX3_findWrong 122 = .ok (.ireturn, 1) := by decide +kernel
theorem dX3_locatorIsZero_0 : decode cX3_locatorIsZero 0 = .ok (.iconst 1, 1) := by decide +kernel
theorem dX3_locatorIsZero_1 : decode cX3_locatorIsZero 1 = .ok (.istore_n 2, 1) := by decide +kernel
theorem dX3_locatorIsZero_2 : decode cX3_locatorIsZero 2 = .ok (.iconst 1, 1) := by decide +kernel
theorem dX3_locatorIsZero_3 : decode cX3_locatorIsZero 3 = .ok (.istore_n 3, 1) := by decide +kernel
theorem dX3_locatorIsZero_4 : decode cX3_locatorIsZero 4 = .ok (.iload_n 3, 1) := by decide +kernel
theorem dX3_locatorIsZero_5 : decode cX3_locatorIsZero 5 = .ok (.iload_n 1, 1) := by decide +kernel
theorem dX3_locatorIsZero_6 : decode cX3_locatorIsZero 6 = .ok (.if_icmp .gt 78, 3) := by decide +kernel
theorem dX3_locatorIsZero_9 : decode cX3_locatorIsZero 9 = .ok (.aload_n 0, 1) := by decide +kernel
theorem dX3_locatorIsZero_10 : decode cX3_locatorIsZero 10 = .ok (.getfield 31, 3) := by decide +kernel
theorem dX3_locatorIsZero_13 : decode cX3_locatorIsZero 13 = .ok (.iload_n 3, 1) := by decide +kernel
theorem dX3_locatorIsZero_14 : decode cX3_locatorIsZero 14 = .ok (.iaload, 1) := by decide +kernel
theorem dX3_locatorIsZero_15 : decode cX3_locatorIsZero 15 = .ok (.iconst (-1), 1) := by decide +kernel
theorem dX3_locatorIsZero_16 : decode cX3_locatorIsZero 16 = .ok (.if_icmp .eq 62, 3) := by decide +kernel
theorem dX3_locatorIsZero_19 : decode cX3_locatorIsZero 19 = .ok (.iload_n 2, 1) := by decide +kernel
theorem dX3_locatorIsZero_20 : decode cX3_locatorIsZero 20 = .ok (.aload_n 0, 1) := by decide +kernel
theorem dX3_locatorIsZero_21 : decode cX3_locatorIsZero 21 = .ok (.getfield 37, 3) := by decide +kernel
theorem dX3_locatorIsZero_24 : decode cX3_locatorIsZero 24 = .ok (.getfield 158, 3) := by decide +kernel
theorem dX3_locatorIsZero_27 : decode cX3_locatorIsZero 27 = .ok (.aload_n 0, 1) := by decide +kernel
theorem dX3_locatorIsZero_28 : decode cX3_locatorIsZero 28 = .ok (.getfield 31, 3) := by decide +kernel
theorem dX3_locatorIsZero_31 : decode cX3_locatorIsZero 31 = .ok (.iload_n 3, 1) := by decide +kernel
theorem dX3_locatorIsZero_32 : decode cX3_locatorIsZero 32 = .ok (.iaload, 1) := by decide +kernel
theorem dX3_locatorIsZero_33 : decode cX3_locatorIsZero 33 = .ok (.iaload, 1) := by decide +kernel
theorem dX3_locatorIsZero_34 : decode cX3_locatorIsZero 34 = .ok (.ixor, 1) := by decide +kernel
theorem dX3_locatorIsZero_35 : decode cX3_locatorIsZero 35 = .ok (.istore_n 2, 1) := by decide +kernel
theorem dX3_locatorIsZero_36 : decode cX3_locatorIsZero 36 = .ok (.aload_n 0, 1) := by decide +kernel
theorem dX3_locatorIsZero_37 : decode cX3_locatorIsZero 37 = .ok (.getfield 31, 3) := by decide +kernel
theorem dX3_locatorIsZero_40 : decode cX3_locatorIsZero 40 = .ok (.iload_n 3, 1) := by decide +kernel
theorem dX3_locatorIsZero_41 : decode cX3_locatorIsZero 41 = .ok (.dup2, 1) := by decide +kernel
theorem dX3_locatorIsZero_42 : decode cX3_locatorIsZero 42 = .ok (.iaload, 1) := by decide +kernel
theorem dX3_locatorIsZero_43 : decode cX3_locatorIsZero 43 = .ok (.iload_n 3, 1) := by decide +kernel
theorem dX3_locatorIsZero_44 : decode cX3_locatorIsZero 44 = .ok (.iadd, 1) := by decide +kernel
theorem dX3_locatorIsZero_45 : decode cX3_locatorIsZero 45 = .ok (.iastore, 1) := by decide +kernel
theorem dX3_locatorIsZero_46 : decode cX3_locatorIsZero 46 = .ok (.aload_n 0, 1) := by decide +kernel
theorem dX3_locatorIsZero_47 : decode cX3_locatorIsZero 47 = .ok (.getfield 31, 3) := by decide +kernel
theorem dX3_locatorIsZero_50 : decode cX3_locatorIsZero 50 = .ok (.iload_n 3, 1) := by decide +kernel
theorem dX3_locatorIsZero_51 : decode cX3_locatorIsZero 51 = .ok (.iaload, 1) := by decide +kernel
theorem dX3_locatorIsZero_52 : decode cX3_locatorIsZero 52 = .ok (.aload_n 0, 1) := by decide +kernel
theorem dX3_locatorIsZero_53 : decode cX3_locatorIsZero 53 = .ok (.getfield 37, 3) := by decide +kernel
theorem dX3_locatorIsZero_56 : decode cX3_locatorIsZero 56 = .ok (.getfield 147, 3) := by decide +kernel
theorem dX3_locatorIsZero_59 : decode cX3_locatorIsZero 59 = .ok (.if_icmp .lt 19, 3) := by decide +kernel
theorem dX3_locatorIsZero_62 : decode cX3_locatorIsZero 62 = .ok (.aload_n 0, 1) := by decide +kernel
theorem dX3_locatorIsZero_63 : decode cX3_locatorIsZero 63 = .ok (.getfield 31, 3) := by decide +kernel
theorem dX3_locatorIsZero_66 : decode cX3_locatorIsZero 66 = .ok (.iload_n 3, 1) := by decide +kernel
theorem dX3_locatorIsZero_67 : decode cX3_locatorIsZero 67 = .ok (.dup2, 1) := by decide +kernel
theorem dX3_locatorIsZero_68 : decode cX3_locatorIsZero 68 = .ok (.iaload, 1) := by decide +kernel
theorem dX3_locatorIsZero_69 : decode cX3_locatorIsZero 69 = .ok (.aload_n 0, 1) := by decide +kernel
theorem dX3_locatorIsZero_70 : decode cX3_locatorIsZero 70 = .ok (.getfield 37, 3) := by decide +kernel
theorem dX3_locatorIsZero_73 : decode cX3_locatorIsZero 73 = .ok (.getfield 147, 3) := by decide +kernel
theorem dX3_locatorIsZero_76 : decode cX3_locatorIsZero 76 = .ok (.isub, 1) := by decide +kernel
theorem dX3_locatorIsZero_77 : decode cX3_locatorIsZero 77 = .ok (.iastore, 1) := by decide +kernel
theorem dX3_locatorIsZero_78 : decode cX3_locatorIsZero 78 = .ok (.iinc 3 1, 3) := by decide +kernel
theorem dX3_locatorIsZero_81 : decode cX3_locatorIsZero 81 = .ok (.goto (-77), 3) := by decide +kernel
theorem dX3_locatorIsZero_84 : decode cX3_locatorIsZero 84 = .ok (.iload_n 2, 1) := by decide +kernel
theorem dX3_locatorIsZero_85 : decode cX3_locatorIsZero 85 = .ok (.ifCond .ne 7, 3) := by decide +kernel
theorem dX3_locatorIsZero_88 : decode cX3_locatorIsZero 88 = .ok (.iconst 1, 1) := by decide +kernel
theorem dX3_locatorIsZero_89 : decode cX3_locatorIsZero 89 = .ok (.goto 4, 3) := by decide +kernel
theorem dX3_locatorIsZero_92 : decode cX3_locatorIsZero 92 = .ok (.iconst 0, 1) := by decide +kernel
theorem dX3_locatorIsZero_93 : decode cX3_locatorIsZero 93 = .ok (.ireturn, 1) := by decide +kernel
theorem dX6_init_0 : decode cX6_init 0 = .ok (.aload_n 0, 1) := by decide +kernel
theorem dX6_init_1 : decode cX6_init 1 = .ok (.invokespecial 3, 3) := by decide +kernel
theorem dX6_init_4 : decode cX6_init 4 = .ok (.aload_n 0, 1) := by decide +kernel
theorem dX6_init_5 : decode cX6_init 5 = .ok (.new 9, 3) := by decide +kernel
theorem dX6_init_8 : decode cX6_init 8 = .ok (.dup, 1) := by decide +kernel
theorem dX6_init_9 : decode cX6_init 9 = .ok (.invokespecial 11, 3) := by decide +kernel
theorem dX6_init_12 : decode cX6_init 12 = .ok (.putfield 12, 3) := by decide +kernel
theorem dX6_init_15 : decode cX6_init 15 = .ok (.aload_n 0, 1) := by decide +kernel
theorem dX6_init_16 : decode cX6_init 16 = .ok (.new 16, 3) := by decide +kernel
theorem dX6_init_19 : decode cX6_init 19 = .ok (.dup, 1) := by decide +kernel
theorem dX6_init_20 : decode cX6_init 20 = .ok (.aload_n 0, 1) := by decide +kernel
theorem dX6_init_21 : decode cX6_init 21 = .ok (.getfield 12, 3) := by decide +kernel
theorem dX6_init_24 : decode cX6_init 24 = .ok (.invokespecial 18, 3) := by decide +kernel
theorem dX6_init_27 : decode cX6_init 27 = .ok (.putfield 21, 3) := by decide +kernel
theorem dX6_init_30 : decode cX6_init 30 = .ok (.aload_n 0, 1) := by decide +kernel
theorem dX6_init_31 : decode cX6_init 31 = .ok (.new 25, 3) := by decide +kernel
theorem dX6_init_34 : decode cX6_init 34 = .ok (.dup, 1) := by decide +kernel
theorem dX6_init_35 : decode cX6_init 35 = .ok (.aload_n 0, 1) := by decide +kernel
theorem dX6_init_36 : decode cX6_init 36 = .ok (.getfield 12, 3) := by decide +kernel
theorem dX6_init_39 : decode cX6_init 39 = .ok (.aload_n 0, 1) := by decide +kernel
theorem dX6_init_40 : decode cX6_init 40 = .ok (.getfield 21, 3) := by decide +kernel
theorem dX6_init_43 : decode cX6_init 43 = .ok (.invokespecial 27, 3) := by decide +kernel
theorem dX6_init_46 : decode cX6_init 46 = .ok (.putfield 30, 3) := by decide +kernel
theorem dX6_init_49 : decode cX6_init 49 = .ok (.aload_n 0, 1) := by decide +kernel
theorem dX6_init_50 : decode cX6_init 50 = .ok (.bipush 16, 2) := by decide +kernel
theorem dX6_init_52 : decode cX6_init 52 = .ok (.anewarray 34, 3) := by decide +kernel
theorem dX6_init_55 : decode cX6_init 55 = .ok (.putfield 36, 3) := by decide +kernel
theorem dX6_init_58 : decode cX6_init 58 = .ok (.iconst 0, 1) := by decide +kernel
theorem dX6_init_59 : decode cX6_init 59 = .ok (.istore_n 1, 1) := by decide +kernel
theorem dX6_init_60 : decode cX6_init 60 = .ok (.iload_n 1, 1) := by decide +kernel
theorem dX6_init_61 : decode cX6_init 61 = .ok (.bipush 16, 2) := by decide +kernel
theorem dX6_init_63 : decode cX6_init 63 = .ok (.if_icmp .ge 22, 3) := by decide +kernel
theorem dX6_init_66 : decode cX6_init 66 = .ok (.aload_n 0, 1) := by decide +kernel
theorem dX6_init_67 : decode cX6_init 67 = .ok (.getfield 36, 3) := by decide +kernel
theorem dX6_init_70 : decode cX6_init 70 = .ok (.iload_n 1, 1) := by decide +kernel
theorem dX6_init_71 : decode cX6_init 71 = .ok (.new 34, 3) := by decide +kernel
theorem dX6_init_74 : decode cX6_init 74 = .ok (.dup, 1) := by decide +kernel
theorem dX6_init_75 : decode cX6_init 75 = .ok (.invokespecial 40, 3) := by decide +kernel
theorem dX6_init_78 : decode cX6_init 78 = .ok (.aastore, 1) := by decide +kernel
theorem dX6_init_79 : decode cX6_init 79 = .ok (.iinc 1 1, 3) := by decide +kernel
theorem dX6_init_82 : decode cX6_init 82 = .ok (.goto (-22), 3) := by decide +kernel
theorem dX6_init_85 : decode cX6_init 85 = .ok (.aload_n 0, 1) := by decide +kernel
theorem dX6_init_86 : decode cX6_init 86 = .ok (.new 41, 3) := by decide +kernel
theorem dX6_init_89 : decode cX6_init 89 = .ok (.dup, 1) := by decide +kernel
theorem dX6_init_90 : decode cX6_init 90 = .ok (.invokespecial 43, 3) := by decide +kernel
theorem dX6_init_93 : decode cX6_init 93 = .ok (.putfield 44, 3) := by decide +kernel
theorem dX6_init_96 : decode cX6_init 96 = .ok (.aload_n 0, 1) := by decide +kernel
theorem dX6_init_97 : decode cX6_init 97 = .ok (.new 41, 3) := by decide +kernel
theorem dX6_init_100 : decode cX6_init 100 = .ok (.dup, 1) := by decide +kernel
theorem dX6_init_101 : decode cX6_init 101 = .ok (.invokespecial 43, 3) := by decide +kernel
theorem dX6_init_104 : decode cX6_init 104 = .ok (.putfield 48, 3) := by decide +kernel
theorem dX6_init_107 : decode cX6_init 107 = .ok (.return_, 1) := by decide +kernel
theorem dX6_open_0 : decode cX6_open 0 = .ok (.iload_n 1, 1) := by decide +kernel
theorem dX6_open_1 : decode cX6_open 1 = .ok (.iconst 3, 1) := by decide +kernel
theorem dX6_open_2 : decode cX6_open 2 = .ok (.if_icmp .lt 32, 3) := by decide +kernel
theorem dX6_open_5 : decode cX6_open 5 = .ok (.iload_n 1, 1) := by decide +kernel
theorem dX6_open_6 : decode cX6_open 6 = .ok (.bipush 13, 2) := by decide +kernel
theorem dX6_open_8 : decode cX6_open 8 = .ok (.if_icmp .gt 26, 3) := by decide +kernel
theorem dX6_open_11 : decode cX6_open 11 = .ok (.iload_n 2, 1) := by decide +kernel
theorem dX6_open_12 : decode cX6_open 12 = .ok (.iconst 1, 1) := by decide +kernel
theorem dX6_open_13 : decode cX6_open 13 = .ok (.if_icmp .lt 21, 3) := by decide +kernel
theorem dX6_open_16 : decode cX6_open 16 = .ok (.iload_n 2, 1) := by decide +kernel
theorem dX6_open_17 : decode cX6_open 17 = .ok (.bipush 8, 2) := by decide +kernel
theorem dX6_open_19 : decode cX6_open 19 = .ok (.if_icmp .gt 15, 3) := by decide +kernel
theorem dX6_open_22 : decode cX6_open 22 = .ok (.iload_n 3, 1) := by decide +kernel
theorem dX6_open_23 : decode cX6_open 23 = .ok (.iconst 1, 1) := by decide +kernel
theorem dX6_open_24 : decode cX6_open 24 = .ok (.if_icmp .lt 10, 3) := by decide +kernel
theorem dX6_open_27 : decode cX6_open 27 = .ok (.iload_n 3, 1) := by decide +kernel
theorem dX6_open_28 : decode cX6_open 28 = .ok (.sipush 256, 3) := by decide +kernel
theorem dX6_open_31 : decode cX6_open 31 = .ok (.if_icmp .le 6, 3) := by decide +kernel
theorem dX6_open_34 : decode cX6_open 34 = .ok (.bipush (-2), 2) := by decide +kernel
theorem dX6_open_36 : decode cX6_open 36 = .ok (.ireturn, 1) := by decide +kernel
theorem dX6_open_37 : decode cX6_open 37 = .ok (.iload_n 1, 1) := by decide +kernel
theorem dX6_open_38 : decode cX6_open 38 = .ok (.iload_n 2, 1) := by decide +kernel
theorem dX6_open_39 : decode cX6_open 39 = .ok (.invokestatic 51, 3) := by decide +kernel
theorem dX6_open_42 : decode cX6_open 42 = .ok (.istore 4, 2) := by decide +kernel
theorem dX6_open_44 : decode cX6_open 44 = .ok (.bipush 8, 2) := by decide +kernel
theorem dX6_open_46 : decode cX6_open 46 = .ok (.iload_n 3, 1) := by decide +kernel
theorem dX6_open_47 : decode cX6_open 47 = .ok (.imul, 1) := by decide +kernel
theorem dX6_open_48 : decode cX6_open 48 = .ok (.iload 4, 2) := by decide +kernel
theorem dX6_open_50 : decode cX6_open 50 = .ok (.iadd, 1) := by decide +kernel
theorem dX6_open_51 : decode cX6_open 51 = .ok (.iconst 1, 1) := by decide +kernel
theorem dX6_open_52 : decode cX6_open 52 = .ok (.iload_n 1, 1) := by decide +kernel
theorem dX6_open_53 : decode cX6_open 53 = .ok (.ishl, 1) := by decide +kernel
theorem dX6_open_54 : decode cX6_open 54 = .ok (.iconst 1, 1) := by decide +kernel
theorem dX6_open_55 : decode cX6_open 55 = .ok (.isub, 1) := by decide +kernel
theorem dX6_open_56 : decode cX6_open 56 = .ok (.if_icmp .le 6, 3) := by decide +kernel
theorem dX6_open_59 : decode cX6_open 59 = .ok (.bipush (-2), 2) := by decide +kernel
theorem dX6_open_61 : decode cX6_open 61 = .ok (.ireturn, 1) := by decide +kernel
theorem dX6_open_62 : decode cX6_open 62 = .ok (.aload_n 0, 1) := by decide +kernel
theorem dX6_open_63 : decode cX6_open 63 = .ok (.getfield 12, 3) := by decide +kernel
theorem dX6_open_66 : decode cX6_open 66 = .ok (.iload_n 1, 1) := by decide +kernel
theorem dX6_open_67 : decode cX6_open 67 = .ok (.invokevirtual 57, 3) := by decide +kernel
theorem dX6_open_70 : decode cX6_open 70 = .ok (.aload_n 0, 1) := by decide +kernel
theorem dX6_open_71 : decode cX6_open 71 = .ok (.getfield 21, 3) := by decide +kernel
theorem dX6_open_74 : decode cX6_open 74 = .ok (.iload_n 2, 1) := by decide +kernel
theorem dX6_open_75 : decode cX6_open 75 = .ok (.iload_n 3, 1) := by decide +kernel
theorem dX6_open_76 : decode cX6_open 76 = .ok (.invokevirtual 61, 3) := by decide +kernel
theorem dX6_open_79 : decode cX6_open 79 = .ok (.iconst 0, 1) := by decide +kernel
theorem dX6_open_80 : decode cX6_open 80 = .ok (.istore 5, 2) := by decide +kernel
theorem dX6_open_82 : decode cX6_open 82 = .ok (.iload 5, 2) := by decide +kernel
theorem dX6_open_84 : decode cX6_open 84 = .ok (.bipush 16, 2) := by decide +kernel
theorem dX6_open_86 : decode cX6_open 86 = .ok (.if_icmp .ge 26, 3) := by decide +kernel
theorem dX6_open_89 : decode cX6_open 89 = .ok (.aload_n 0, 1) := by decide +kernel
theorem dX6_open_90 : decode cX6_open 90 = .ok (.getfield 36, 3) := by decide +kernel
theorem dX6_open_93 : decode cX6_open 93 = .ok (.iload 5, 2) := by decide +kernel
theorem dX6_open_95 : decode cX6_open 95 = .ok (.aaload, 1) := by decide +kernel
theorem dX6_open_96 : decode cX6_open 96 = .ok (.aload_n 0, 1) := by decide +kernel
theorem dX6_open_97 : decode cX6_open 97 = .ok (.getfield 21, 3) := by decide +kernel
theorem dX6_open_100 : decode cX6_open 100 = .ok (.getfield 64, 3) := by decide +kernel
theorem dX6_open_103 : decode cX6_open 103 = .ok (.invokevirtual 67, 3) := by decide +kernel
theorem dX6_open_106 : decode cX6_open 106 = .ok (.iinc 5 1, 3) := by decide +kernel
theorem dX6_open_109 : decode cX6_open 109 = .ok (.goto (-27), 3) := by decide +kernel
theorem dX6_open_112 : decode cX6_open 112 = .ok (.aload_n 0, 1) := by decide +kernel
theorem dX6_open_113 : decode cX6_open 113 = .ok (.getfield 44, 3) := by decide +kernel
theorem dX6_open_116 : decode cX6_open 116 = .ok (.invokevirtual 71, 3) := by decide +kernel
theorem dX6_open_119 : decode cX6_open 119 = .ok (.aload_n 0, 1) := by decide +kernel
theorem dX6_open_120 : decode cX6_open 120 = .ok (.getfield 48, 3) := by decide +kernel
theorem dX6_open_123 : decode cX6_open 123 = .ok (.invokevirtual 71, 3) := by decide +kernel
theorem dX6_open_126 : decode cX6_open 126 = .ok (.aload_n 0, 1) := by decide +kernel
theorem dX6_open_127 : decode cX6_open 127 = .ok (.iconst 0, 1) := by decide +kernel
theorem dX6_open_128 : decode cX6_open 128 = .ok (.putfield 74, 3) := by decide +kernel
theorem dX6_open_131 : decode cX6_open 131 = .ok (.aload_n 0, 1) := by decide +kernel
theorem dX6_open_132 : decode cX6_open 132 = .ok (.iconst 0, 1) := by decide +kernel
theorem dX6_open_133 : decode cX6_open 133 = .ok (.putfield 78, 3) := by decide +kernel
theorem dX6_open_136 : decode cX6_open 136 = .ok (.aload_n 0, 1) := by decide +kernel
theorem dX6_open_137 : decode cX6_open 137 = .ok (.iconst 0, 1) := by decide +kernel
theorem dX6_open_138 : decode cX6_open 138 = .ok (.putfield 81, 3) := by decide +kernel
theorem dX6_open_141 : decode cX6_open 141 = .ok (.aload_n 0, 1) := by decide +kernel
theorem dX6_open_142 : decode cX6_open 142 = .ok (.iconst 1, 1) := by decide +kernel
theorem dX6_open_143 : decode cX6_open 143 = .ok (.putfield 84, 3) := by decide +kernel
theorem dX6_open_146 : decode cX6_open 146 = .ok (.iload 4, 2) := by decide +kernel
theorem dX6_open_148 : decode cX6_open 148 = .ok (.ireturn, 1) := by decide +kernel
theorem dX6_times_0 : decode cX6_times 0 = .ok (.aload_n 0, 1) := by decide +kernel
theorem dX6_times_1 : decode cX6_times 1 = .ok (.getfield 84, 3) := by decide +kernel
theorem dX6_times_4 : decode cX6_times 4 = .ok (.ifCond .ne 6, 3) := by decide +kernel
theorem dX6_times_7 : decode cX6_times 7 = .ok (.bipush (-3), 2) := by decide +kernel
theorem dX6_times_9 : decode cX6_times 9 = .ok (.ireturn, 1) := by decide +kernel
theorem dX6_times_10 : decode cX6_times 10 = .ok (.aload_n 0, 1) := by decide +kernel
theorem dX6_times_11 : decode cX6_times 11 = .ok (.getfield 12, 3) := by decide +kernel
theorem dX6_times_14 : decode cX6_times 14 = .ok (.iload_n 1, 1) := by decide +kernel
theorem dX6_times_15 : decode cX6_times 15 = .ok (.invokevirtual 88, 3) := by decide +kernel
theorem dX6_times_18 : decode cX6_times 18 = .ok (.ifCond .eq 14, 3) := by decide +kernel
theorem dX6_times_21 : decode cX6_times 21 = .ok (.aload_n 0, 1) := by decide +kernel
theorem dX6_times_22 : decode cX6_times 22 = .ok (.getfield 12, 3) := by decide +kernel
theorem dX6_times_25 : decode cX6_times 25 = .ok (.iload_n 2, 1) := by decide +kernel
theorem dX6_times_26 : decode cX6_times 26 = .ok (.invokevirtual 88, 3) := by decide +kernel
theorem dX6_times_29 : decode cX6_times 29 = .ok (.ifCond .ne 6, 3) := by decide +kernel
theorem dX6_times_32 : decode cX6_times 32 = .ok (.bipush (-2), 2) := by decide +kernel
theorem dX6_times_34 : decode cX6_times 34 = .ok (.ireturn, 1) := by decide +kernel
theorem dX6_times_35 : decode cX6_times 35 = .ok (.aload_n 0, 1) := by decide +kernel
theorem dX6_times_36 : decode cX6_times 36 = .ok (.getfield 12, 3) := by decide +kernel
theorem dX6_times_39 : decode cX6_times 39 = .ok (.iload_n 1, 1) := by decide +kernel
theorem dX6_times_40 : decode cX6_times 40 = .ok (.iload_n 2, 1) := by decide +kernel
theorem dX6_times_41 : decode cX6_times 41 = .ok (.invokevirtual 92, 3) := by decide +kernel
theorem dX6_times_44 : decode cX6_times 44 = .ok (.ireturn, 1) := by decide +kernel
theorem dX6_inverse_0 : decode cX6_inverse 0 = .ok (.aload_n 0, 1) := by decide +kernel
theorem dX6_inverse_1 : decode cX6_inverse 1 = .ok (.getfield 84, 3) := by decide +kernel
theorem dX6_inverse_4 : decode cX6_inverse 4 = .ok (.ifCond .ne 6, 3) := by decide +kernel
theorem dX6_inverse_7 : decode cX6_inverse 7 = .ok (.bipush (-3), 2) := by decide +kernel
theorem dX6_inverse_9 : decode cX6_inverse 9 = .ok (.ireturn, 1) := by decide +kernel
theorem dX6_inverse_10 : decode cX6_inverse 10 = .ok (.aload_n 0, 1) := by decide +kernel
theorem dX6_inverse_11 : decode cX6_inverse 11 = .ok (.getfield 12, 3) := by decide +kernel
theorem dX6_inverse_14 : decode cX6_inverse 14 = .ok (.iload_n 1, 1) := by decide +kernel
theorem dX6_inverse_15 : decode cX6_inverse 15 = .ok (.invokevirtual 88, 3) := by decide +kernel
theorem dX6_inverse_18 : decode cX6_inverse 18 = .ok (.ifCond .eq 7, 3) := by decide +kernel
theorem dX6_inverse_21 : decode cX6_inverse 21 = .ok (.iload_n 1, 1) := by decide +kernel
theorem dX6_inverse_22 : decode cX6_inverse 22 = .ok (.ifCond .ne 6, 3) := by decide +kernel
theorem dX6_inverse_25 : decode cX6_inverse 25 = .ok (.bipush (-2), 2) := by decide +kernel
theorem dX6_inverse_27 : decode cX6_inverse 27 = .ok (.ireturn, 1) := by decide +kernel
theorem dX6_inverse_28 : decode cX6_inverse 28 = .ok (.aload_n 0, 1) := by decide +kernel
theorem dX6_inverse_29 : decode cX6_inverse 29 = .ok (.getfield 12, 3) := by decide +kernel
theorem dX6_inverse_32 : decode cX6_inverse 32 = .ok (.iload_n 1, 1) := by decide +kernel
theorem dX6_inverse_33 : decode cX6_inverse 33 = .ok (.invokevirtual 95, 3) := by decide +kernel
theorem dX6_inverse_36 : decode cX6_inverse 36 = .ok (.ireturn, 1) := by decide +kernel
theorem dX6_power_0 : decode cX6_power 0 = .ok (.aload_n 0, 1) := by decide +kernel
theorem dX6_power_1 : decode cX6_power 1 = .ok (.getfield 84, 3) := by decide +kernel
theorem dX6_power_4 : decode cX6_power 4 = .ok (.ifCond .ne 6, 3) := by decide +kernel
theorem dX6_power_7 : decode cX6_power 7 = .ok (.bipush (-3), 2) := by decide +kernel
theorem dX6_power_9 : decode cX6_power 9 = .ok (.ireturn, 1) := by decide +kernel
theorem dX6_power_10 : decode cX6_power 10 = .ok (.iload_n 1, 1) := by decide +kernel
theorem dX6_power_11 : decode cX6_power 11 = .ok (.ldc 99, 2) := by decide +kernel
theorem dX6_power_13 : decode cX6_power 13 = .ok (.if_icmp .lt 9, 3) := by decide +kernel
theorem dX6_power_16 : decode cX6_power 16 = .ok (.iload_n 1, 1) := by decide +kernel
theorem dX6_power_17 : decode cX6_power 17 = .ok (.ldc 100, 2) := by decide +kernel
theorem dX6_power_19 : decode cX6_power 19 = .ok (.if_icmp .le 6, 3) := by decide +kernel
theorem dX6_power_22 : decode cX6_power 22 = .ok (.bipush (-2), 2) := by decide +kernel
theorem dX6_power_24 : decode cX6_power 24 = .ok (.ireturn, 1) := by decide +kernel
theorem dX6_power_25 : decode cX6_power 25 = .ok (.aload_n 0, 1) := by decide +kernel
theorem dX6_power_26 : decode cX6_power 26 = .ok (.getfield 12, 3) := by decide +kernel
theorem dX6_power_29 : decode cX6_power 29 = .ok (.iload_n 1, 1) := by decide +kernel
theorem dX6_power_30 : decode cX6_power 30 = .ok (.invokevirtual 101, 3) := by decide +kernel
theorem dX6_power_33 : decode cX6_power 33 = .ok (.ireturn, 1) := by decide +kernel
theorem dX6_log_0 : decode cX6_log 0 = .ok (.aload_n 0, 1) := by decide +kernel
theorem dX6_log_1 : decode cX6_log 1 = .ok (.getfield 84, 3) := by decide +kernel
theorem dX6_log_4 : decode cX6_log 4 = .ok (.ifCond .ne 6, 3) := by decide +kernel
theorem dX6_log_7 : decode cX6_log 7 = .ok (.bipush (-3), 2) := by decide +kernel
theorem dX6_log_9 : decode cX6_log 9 = .ok (.ireturn, 1) := by decide +kernel
theorem dX6_log_10 : decode cX6_log 10 = .ok (.aload_n 0, 1) := by decide +kernel
theorem dX6_log_11 : decode cX6_log 11 = .ok (.getfield 12, 3) := by decide +kernel
theorem dX6_log_14 : decode cX6_log 14 = .ok (.iload_n 1, 1) := by decide +kernel
theorem dX6_log_15 : decode cX6_log 15 = .ok (.invokevirtual 88, 3) := by decide +kernel
theorem dX6_log_18 : decode cX6_log 18 = .ok (.ifCond .eq 7, 3) := by decide +kernel
theorem dX6_log_21 : decode cX6_log 21 = .ok (.iload_n 1, 1) := by decide +kernel
theorem dX6_log_22 : decode cX6_log 22 = .ok (.ifCond .ne 6, 3) := by decide +kernel
theorem dX6_log_25 : decode cX6_log 25 = .ok (.bipush (-2), 2) := by decide +kernel
theorem dX6_log_27 : decode cX6_log 27 = .ok (.ireturn, 1) := by decide +kernel
theorem dX6_log_28 : decode cX6_log 28 = .ok (.aload_n 0, 1) := by decide +kernel
theorem dX6_log_29 : decode cX6_log 29 = .ok (.getfield 12, 3) := by decide +kernel
theorem dX6_log_32 : decode cX6_log 32 = .ok (.getfield 104, 3) := by decide +kernel
theorem dX6_log_35 : decode cX6_log 35 = .ok (.iload_n 1, 1) := by decide +kernel
theorem dX6_log_36 : decode cX6_log 36 = .ok (.iaload, 1) := by decide +kernel
theorem dX6_log_37 : decode cX6_log 37 = .ok (.ireturn, 1) := by decide +kernel
theorem dX6_minimal_0 : decode cX6_minimal 0 = .ok (.aload_n 0, 1) := by decide +kernel
theorem dX6_minimal_1 : decode cX6_minimal 1 = .ok (.getfield 84, 3) := by decide +kernel
theorem dX6_minimal_4 : decode cX6_minimal 4 = .ok (.ifCond .ne 6, 3) := by decide +kernel
theorem dX6_minimal_7 : decode cX6_minimal 7 = .ok (.bipush (-3), 2) := by decide +kernel
theorem dX6_minimal_9 : decode cX6_minimal 9 = .ok (.ireturn, 1) := by decide +kernel
theorem dX6_minimal_10 : decode cX6_minimal 10 = .ok (.iload_n 1, 1) := by decide +kernel
theorem dX6_minimal_11 : decode cX6_minimal 11 = .ok (.ifCond .lt 14, 3) := by decide +kernel
theorem dX6_minimal_14 : decode cX6_minimal 14 = .ok (.iload_n 1, 1) := by decide +kernel
theorem dX6_minimal_15 : decode cX6_minimal 15 = .ok (.aload_n 0, 1) := by decide +kernel
theorem dX6_minimal_16 : decode cX6_minimal 16 = .ok (.getfield 12, 3) := by decide +kernel
theorem dX6_minimal_19 : decode cX6_minimal 19 = .ok (.getfield 108, 3) := by decide +kernel
theorem dX6_minimal_22 : decode cX6_minimal 22 = .ok (.if_icmp .lt 6, 3) := by decide +kernel
theorem dX6_minimal_25 : decode cX6_minimal 25 = .ok (.bipush (-2), 2) := by decide +kernel
theorem dX6_minimal_27 : decode cX6_minimal 27 = .ok (.ireturn, 1) := by decide +kernel
theorem dX6_minimal_28 : decode cX6_minimal 28 = .ok (.aload_n 0, 1) := by decide +kernel
theorem dX6_minimal_29 : decode cX6_minimal 29 = .ok (.getfield 12, 3) := by decide +kernel
theorem dX6_minimal_32 : decode cX6_minimal 32 = .ok (.iload_n 1, 1) := by decide +kernel
theorem dX6_minimal_33 : decode cX6_minimal 33 = .ok (.invokevirtual 111, 3) := by decide +kernel
theorem dX6_minimal_36 : decode cX6_minimal 36 = .ok (.ireturn, 1) := by decide +kernel
theorem dX6_generator_0 : decode cX6_generator 0 = .ok (.aload_n 0, 1) := by decide +kernel
theorem dX6_generator_1 : decode cX6_generator 1 = .ok (.getfield 84, 3) := by decide +kernel
theorem dX6_generator_4 : decode cX6_generator 4 = .ok (.ifCond .ne 6, 3) := by decide +kernel
theorem dX6_generator_7 : decode cX6_generator 7 = .ok (.bipush (-3), 2) := by decide +kernel
theorem dX6_generator_9 : decode cX6_generator 9 = .ok (.ireturn, 1) := by decide +kernel
theorem dX6_generator_10 : decode cX6_generator 10 = .ok (.iload_n 1, 1) := by decide +kernel
theorem dX6_generator_11 : decode cX6_generator 11 = .ok (.ifCond .ge 6, 3) := by decide +kernel
theorem dX6_generator_14 : decode cX6_generator 14 = .ok (.bipush (-2), 2) := by decide +kernel
theorem dX6_generator_16 : decode cX6_generator 16 = .ok (.ireturn, 1) := by decide +kernel
theorem dX6_generator_17 : decode cX6_generator 17 = .ok (.iload_n 1, 1) := by decide +kernel
theorem dX6_generator_18 : decode cX6_generator 18 = .ok (.aload_n 0, 1) := by decide +kernel
theorem dX6_generator_19 : decode cX6_generator 19 = .ok (.getfield 21, 3) := by decide +kernel
theorem dX6_generator_22 : decode cX6_generator 22 = .ok (.getfield 114, 3) := by decide +kernel
theorem dX6_generator_25 : decode cX6_generator 25 = .ok (.if_icmp .le 7, 3) := by decide +kernel
theorem dX6_generator_28 : decode cX6_generator 28 = .ok (.iconst 0, 1) := by decide +kernel
theorem dX6_generator_29 : decode cX6_generator 29 = .ok (.goto 12, 3) := by decide +kernel
theorem dX6_generator_32 : decode cX6_generator 32 = .ok (.aload_n 0, 1) := by decide +kernel
theorem dX6_generator_33 : decode cX6_generator 33 = .ok (.getfield 21, 3) := by decide +kernel
theorem dX6_generator_36 : decode cX6_generator 36 = .ok (.getfield 117, 3) := by decide +kernel
theorem dX6_generator_39 : decode cX6_generator 39 = .ok (.iload_n 1, 1) := by decide +kernel
theorem dX6_generator_40 : decode cX6_generator 40 = .ok (.iaload, 1) := by decide +kernel
theorem dX6_generator_41 : decode cX6_generator 41 = .ok (.ireturn, 1) := by decide +kernel
theorem dX6_put_0 : decode cX6_put 0 = .ok (.aload_n 0, 1) := by decide +kernel
theorem dX6_put_1 : decode cX6_put 1 = .ok (.getfield 84, 3) := by decide +kernel
theorem dX6_put_4 : decode cX6_put 4 = .ok (.ifCond .ne 6, 3) := by decide +kernel
theorem dX6_put_7 : decode cX6_put 7 = .ok (.bipush (-3), 2) := by decide +kernel
theorem dX6_put_9 : decode cX6_put 9 = .ok (.ireturn, 1) := by decide +kernel
theorem dX6_put_10 : decode cX6_put 10 = .ok (.aload_n 0, 1) := by decide +kernel
theorem dX6_put_11 : decode cX6_put 11 = .ok (.iload_n 1, 1) := by decide +kernel
theorem dX6_put_12 : decode cX6_put 12 = .ok (.invokevirtual 120, 3) := by decide +kernel
theorem dX6_put_15 : decode cX6_put 15 = .ok (.ifCond .ne 6, 3) := by decide +kernel
theorem dX6_put_18 : decode cX6_put 18 = .ok (.bipush (-2), 2) := by decide +kernel
theorem dX6_put_20 : decode cX6_put 20 = .ok (.ireturn, 1) := by decide +kernel
theorem dX6_put_21 : decode cX6_put 21 = .ok (.aload_n 0, 1) := by decide +kernel
theorem dX6_put_22 : decode cX6_put 22 = .ok (.getfield 44, 3) := by decide +kernel
theorem dX6_put_25 : decode cX6_put 25 = .ok (.iload_n 1, 1) := by decide +kernel
theorem dX6_put_26 : decode cX6_put 26 = .ok (.invokevirtual 123, 3) := by decide +kernel
theorem dX6_put_29 : decode cX6_put 29 = .ok (.istore_n 3, 1) := by decide +kernel
theorem dX6_put_30 : decode cX6_put 30 = .ok (.aload_n 0, 1) := by decide +kernel
theorem dX6_put_31 : decode cX6_put 31 = .ok (.getfield 44, 3) := by decide +kernel
theorem dX6_put_34 : decode cX6_put 34 = .ok (.iload_n 1, 1) := by decide +kernel
theorem dX6_put_35 : decode cX6_put 35 = .ok (.iload_n 2, 1) := by decide +kernel
theorem dX6_put_36 : decode cX6_put 36 = .ok (.sipush 255, 3) := by decide +kernel
theorem dX6_put_39 : decode cX6_put 39 = .ok (.iand, 1) := by decide +kernel
theorem dX6_put_40 : decode cX6_put 40 = .ok (.invokevirtual 126, 3) := by decide +kernel
theorem dX6_put_43 : decode cX6_put 43 = .ok (.iload_n 3, 1) := by decide +kernel
theorem dX6_put_44 : decode cX6_put 44 = .ok (.ireturn, 1) := by decide +kernel
theorem dX6_fill_0 : decode cX6_fill 0 = .ok (.aload_n 0, 1) := by decide +kernel
theorem dX6_fill_1 : decode cX6_fill 1 = .ok (.getfield 84, 3) := by decide +kernel
theorem dX6_fill_4 : decode cX6_fill 4 = .ok (.ifCond .ne 6, 3) := by decide +kernel
theorem dX6_fill_7 : decode cX6_fill 7 = .ok (.bipush (-3), 2) := by decide +kernel
theorem dX6_fill_9 : decode cX6_fill 9 = .ok (.ireturn, 1) := by decide +kernel
theorem dX6_fill_10 : decode cX6_fill 10 = .ok (.aload_n 0, 1) := by decide +kernel
theorem dX6_fill_11 : decode cX6_fill 11 = .ok (.iload_n 1, 1) := by decide +kernel
theorem dX6_fill_12 : decode cX6_fill 12 = .ok (.invokevirtual 120, 3) := by decide +kernel
theorem dX6_fill_15 : decode cX6_fill 15 = .ok (.ifCond .ne 6, 3) := by decide +kernel
theorem dX6_fill_18 : decode cX6_fill 18 = .ok (.bipush (-2), 2) := by decide +kernel
theorem dX6_fill_20 : decode cX6_fill 20 = .ok (.ireturn, 1) := by decide +kernel
theorem dX6_fill_21 : decode cX6_fill 21 = .ok (.bipush 8, 2) := by decide +kernel
theorem dX6_fill_23 : decode cX6_fill 23 = .ok (.aload_n 0, 1) := by decide +kernel
theorem dX6_fill_24 : decode cX6_fill 24 = .ok (.getfield 21, 3) := by decide +kernel
theorem dX6_fill_27 : decode cX6_fill 27 = .ok (.getfield 129, 3) := by decide +kernel
theorem dX6_fill_30 : decode cX6_fill 30 = .ok (.iload_n 1, 1) := by decide +kernel
theorem dX6_fill_31 : decode cX6_fill 31 = .ok (.isub, 1) := by decide +kernel
theorem dX6_fill_32 : decode cX6_fill 32 = .ok (.invokestatic 132, 3) := by decide +kernel
theorem dX6_fill_35 : decode cX6_fill 35 = .ok (.istore 4, 2) := by decide +kernel
theorem dX6_fill_37 : decode cX6_fill 37 = .ok (.iconst 0, 1) := by decide +kernel
theorem dX6_fill_38 : decode cX6_fill 38 = .ok (.istore 5, 2) := by decide +kernel
theorem dX6_fill_40 : decode cX6_fill 40 = .ok (.iload 5, 2) := by decide +kernel
theorem dX6_fill_42 : decode cX6_fill 42 = .ok (.iload 4, 2) := by decide +kernel
theorem dX6_fill_44 : decode cX6_fill 44 = .ok (.if_icmp .ge 35, 3) := by decide +kernel
theorem dX6_fill_47 : decode cX6_fill 47 = .ok (.aload_n 0, 1) := by decide +kernel
theorem dX6_fill_48 : decode cX6_fill 48 = .ok (.getfield 44, 3) := by decide +kernel
theorem dX6_fill_51 : decode cX6_fill 51 = .ok (.iload_n 1, 1) := by decide +kernel
theorem dX6_fill_52 : decode cX6_fill 52 = .ok (.iload 5, 2) := by decide +kernel
theorem dX6_fill_54 : decode cX6_fill 54 = .ok (.iadd, 1) := by decide +kernel
theorem dX6_fill_55 : decode cX6_fill 55 = .ok (.lload_n 2, 1) := by decide +kernel
theorem dX6_fill_56 : decode cX6_fill 56 = .ok (.bipush 56, 2) := by decide +kernel
theorem dX6_fill_58 : decode cX6_fill 58 = .ok (.bipush 8, 2) := by decide +kernel
theorem dX6_fill_60 : decode cX6_fill 60 = .ok (.iload 5, 2) := by decide +kernel
theorem dX6_fill_62 : decode cX6_fill 62 = .ok (.imul, 1) := by decide +kernel
theorem dX6_fill_63 : decode cX6_fill 63 = .ok (.isub, 1) := by decide +kernel
theorem dX6_fill_64 : decode cX6_fill 64 = .ok (.lushr, 1) := by decide +kernel
theorem dX6_fill_65 : decode cX6_fill 65 = .ok (.l2i, 1) := by decide +kernel
theorem dX6_fill_66 : decode cX6_fill 66 = .ok (.sipush 255, 3) := by decide +kernel
theorem dX6_fill_69 : decode cX6_fill 69 = .ok (.iand, 1) := by decide +kernel
theorem dX6_fill_70 : decode cX6_fill 70 = .ok (.invokevirtual 126, 3) := by decide +kernel
theorem dX6_fill_73 : decode cX6_fill 73 = .ok (.iinc 5 1, 3) := by decide +kernel
theorem dX6_fill_76 : decode cX6_fill 76 = .ok (.goto (-36), 3) := by decide +kernel
theorem dX6_fill_79 : decode cX6_fill 79 = .ok (.iload 4, 2) := by decide +kernel
theorem dX6_fill_81 : decode cX6_fill 81 = .ok (.ireturn, 1) := by decide +kernel
theorem dX6_get_0 : decode cX6_get 0 = .ok (.aload_n 0, 1) := by decide +kernel
theorem dX6_get_1 : decode cX6_get 1 = .ok (.getfield 84, 3) := by decide +kernel
theorem dX6_get_4 : decode cX6_get 4 = .ok (.ifCond .ne 6, 3) := by decide +kernel
theorem dX6_get_7 : decode cX6_get 7 = .ok (.bipush (-3), 2) := by decide +kernel
theorem dX6_get_9 : decode cX6_get 9 = .ok (.ireturn, 1) := by decide +kernel
theorem dX6_get_10 : decode cX6_get 10 = .ok (.aload_n 0, 1) := by decide +kernel
theorem dX6_get_11 : decode cX6_get 11 = .ok (.iload_n 1, 1) := by decide +kernel
theorem dX6_get_12 : decode cX6_get 12 = .ok (.invokevirtual 120, 3) := by decide +kernel
theorem dX6_get_15 : decode cX6_get 15 = .ok (.ifCond .ne 6, 3) := by decide +kernel
theorem dX6_get_18 : decode cX6_get 18 = .ok (.bipush (-2), 2) := by decide +kernel
theorem dX6_get_20 : decode cX6_get 20 = .ok (.ireturn, 1) := by decide +kernel
theorem dX6_get_21 : decode cX6_get 21 = .ok (.aload_n 0, 1) := by decide +kernel
theorem dX6_get_22 : decode cX6_get 22 = .ok (.getfield 44, 3) := by decide +kernel
theorem dX6_get_25 : decode cX6_get 25 = .ok (.iload_n 1, 1) := by decide +kernel
theorem dX6_get_26 : decode cX6_get 26 = .ok (.invokevirtual 123, 3) := by decide +kernel
theorem dX6_get_29 : decode cX6_get 29 = .ok (.ireturn, 1) := by decide +kernel
theorem dX6_tail_0 : decode cX6_tail 0 = .ok (.aload_n 0, 1) := by decide +kernel
theorem dX6_tail_1 : decode cX6_tail 1 = .ok (.getfield 84, 3) := by decide +kernel
theorem dX6_tail_4 : decode cX6_tail 4 = .ok (.ifCond .ne 6, 3) := by decide +kernel
theorem dX6_tail_7 : decode cX6_tail 7 = .ok (.bipush (-3), 2) := by decide +kernel
theorem dX6_tail_9 : decode cX6_tail 9 = .ok (.ireturn, 1) := by decide +kernel
theorem dX6_tail_10 : decode cX6_tail 10 = .ok (.iload_n 1, 1) := by decide +kernel
theorem dX6_tail_11 : decode cX6_tail 11 = .ok (.ifCond .lt 14, 3) := by decide +kernel
theorem dX6_tail_14 : decode cX6_tail 14 = .ok (.iload_n 1, 1) := by decide +kernel
theorem dX6_tail_15 : decode cX6_tail 15 = .ok (.aload_n 0, 1) := by decide +kernel
theorem dX6_tail_16 : decode cX6_tail 16 = .ok (.getfield 21, 3) := by decide +kernel
theorem dX6_tail_19 : decode cX6_tail 19 = .ok (.getfield 114, 3) := by decide +kernel
theorem dX6_tail_22 : decode cX6_tail 22 = .ok (.if_icmp .lt 6, 3) := by decide +kernel
theorem dX6_tail_25 : decode cX6_tail 25 = .ok (.bipush (-2), 2) := by decide +kernel
theorem dX6_tail_27 : decode cX6_tail 27 = .ok (.ireturn, 1) := by decide +kernel
theorem dX6_tail_28 : decode cX6_tail 28 = .ok (.aload_n 0, 1) := by decide +kernel
theorem dX6_tail_29 : decode cX6_tail 29 = .ok (.getfield 21, 3) := by decide +kernel
theorem dX6_tail_32 : decode cX6_tail 32 = .ok (.aload_n 0, 1) := by decide +kernel
theorem dX6_tail_33 : decode cX6_tail 33 = .ok (.getfield 44, 3) := by decide +kernel
theorem dX6_tail_36 : decode cX6_tail 36 = .ok (.invokevirtual 137, 3) := by decide +kernel
theorem dX6_tail_39 : decode cX6_tail 39 = .ok (.aload_n 0, 1) := by decide +kernel
theorem dX6_tail_40 : decode cX6_tail 40 = .ok (.getfield 44, 3) := by decide +kernel
theorem dX6_tail_43 : decode cX6_tail 43 = .ok (.bipush 8, 2) := by decide +kernel
theorem dX6_tail_45 : decode cX6_tail 45 = .ok (.aload_n 0, 1) := by decide +kernel
theorem dX6_tail_46 : decode cX6_tail 46 = .ok (.getfield 21, 3) := by decide +kernel
theorem dX6_tail_49 : decode cX6_tail 49 = .ok (.getfield 129, 3) := by decide +kernel
theorem dX6_tail_52 : decode cX6_tail 52 = .ok (.imul, 1) := by decide +kernel
theorem dX6_tail_53 : decode cX6_tail 53 = .ok (.iload_n 1, 1) := by decide +kernel
theorem dX6_tail_54 : decode cX6_tail 54 = .ok (.iadd, 1) := by decide +kernel
theorem dX6_tail_55 : decode cX6_tail 55 = .ok (.invokevirtual 140, 3) := by decide +kernel
theorem dX6_tail_58 : decode cX6_tail 58 = .ok (.ireturn, 1) := by decide +kernel
theorem dX6_write_0 : decode cX6_write 0 = .ok (.aload_n 0, 1) := by decide +kernel
theorem dX6_write_1 : decode cX6_write 1 = .ok (.getfield 84, 3) := by decide +kernel
theorem dX6_write_4 : decode cX6_write 4 = .ok (.ifCond .ne 6, 3) := by decide +kernel
theorem dX6_write_7 : decode cX6_write 7 = .ok (.bipush (-3), 2) := by decide +kernel
theorem dX6_write_9 : decode cX6_write 9 = .ok (.ireturn, 1) := by decide +kernel
theorem dX6_write_10 : decode cX6_write 10 = .ok (.aload_n 0, 1) := by decide +kernel
theorem dX6_write_11 : decode cX6_write 11 = .ok (.iload_n 1, 1) := by decide +kernel
theorem dX6_write_12 : decode cX6_write 12 = .ok (.invokevirtual 143, 3) := by decide +kernel
theorem dX6_write_15 : decode cX6_write 15 = .ok (.ifCond .ne 6, 3) := by decide +kernel
theorem dX6_write_18 : decode cX6_write 18 = .ok (.bipush (-2), 2) := by decide +kernel
theorem dX6_write_20 : decode cX6_write 20 = .ok (.ireturn, 1) := by decide +kernel
theorem dX6_write_21 : decode cX6_write 21 = .ok (.aload_n 0, 1) := by decide +kernel
theorem dX6_write_22 : decode cX6_write 22 = .ok (.getfield 21, 3) := by decide +kernel
theorem dX6_write_25 : decode cX6_write 25 = .ok (.aload_n 0, 1) := by decide +kernel
theorem dX6_write_26 : decode cX6_write 26 = .ok (.getfield 44, 3) := by decide +kernel
theorem dX6_write_29 : decode cX6_write 29 = .ok (.invokevirtual 137, 3) := by decide +kernel
theorem dX6_write_32 : decode cX6_write 32 = .ok (.aload_n 0, 1) := by decide +kernel
theorem dX6_write_33 : decode cX6_write 33 = .ok (.getfield 36, 3) := by decide +kernel
theorem dX6_write_36 : decode cX6_write 36 = .ok (.iload_n 1, 1) := by decide +kernel
theorem dX6_write_37 : decode cX6_write 37 = .ok (.aaload, 1) := by decide +kernel
theorem dX6_write_38 : decode cX6_write 38 = .ok (.aload_n 0, 1) := by decide +kernel
theorem dX6_write_39 : decode cX6_write 39 = .ok (.getfield 44, 3) := by decide +kernel
theorem dX6_write_42 : decode cX6_write 42 = .ok (.invokevirtual 146, 3) := by decide +kernel
theorem dX6_write_45 : decode cX6_write 45 = .ok (.ireturn, 1) := by decide +kernel
theorem dX6_erase_0 : decode cX6_erase 0 = .ok (.aload_n 0, 1) := by decide +kernel
theorem dX6_erase_1 : decode cX6_erase 1 = .ok (.getfield 84, 3) := by decide +kernel
theorem dX6_erase_4 : decode cX6_erase 4 = .ok (.ifCond .ne 6, 3) := by decide +kernel
theorem dX6_erase_7 : decode cX6_erase 7 = .ok (.bipush (-3), 2) := by decide +kernel
theorem dX6_erase_9 : decode cX6_erase 9 = .ok (.ireturn, 1) := by decide +kernel
theorem dX6_erase_10 : decode cX6_erase 10 = .ok (.aload_n 0, 1) := by decide +kernel
theorem dX6_erase_11 : decode cX6_erase 11 = .ok (.iload_n 1, 1) := by decide +kernel
theorem dX6_erase_12 : decode cX6_erase 12 = .ok (.invokevirtual 143, 3) := by decide +kernel
theorem dX6_erase_15 : decode cX6_erase 15 = .ok (.ifCond .ne 6, 3) := by decide +kernel
theorem dX6_erase_18 : decode cX6_erase 18 = .ok (.bipush (-2), 2) := by decide +kernel
theorem dX6_erase_20 : decode cX6_erase 20 = .ok (.ireturn, 1) := by decide +kernel
theorem dX6_erase_21 : decode cX6_erase 21 = .ok (.aload_n 0, 1) := by decide +kernel
theorem dX6_erase_22 : decode cX6_erase 22 = .ok (.getfield 36, 3) := by decide +kernel
theorem dX6_erase_25 : decode cX6_erase 25 = .ok (.iload_n 1, 1) := by decide +kernel
theorem dX6_erase_26 : decode cX6_erase 26 = .ok (.aaload, 1) := by decide +kernel
theorem dX6_erase_27 : decode cX6_erase 27 = .ok (.aload_n 0, 1) := by decide +kernel
theorem dX6_erase_28 : decode cX6_erase 28 = .ok (.getfield 21, 3) := by decide +kernel
theorem dX6_erase_31 : decode cX6_erase 31 = .ok (.getfield 64, 3) := by decide +kernel
theorem dX6_erase_34 : decode cX6_erase 34 = .ok (.invokevirtual 150, 3) := by decide +kernel
theorem dX6_erase_37 : decode cX6_erase 37 = .ok (.aload_n 0, 1) := by decide +kernel
theorem dX6_erase_38 : decode cX6_erase 38 = .ok (.getfield 36, 3) := by decide +kernel
theorem dX6_erase_41 : decode cX6_erase 41 = .ok (.iload_n 1, 1) := by decide +kernel
theorem dX6_erase_42 : decode cX6_erase 42 = .ok (.aaload, 1) := by decide +kernel
theorem dX6_erase_43 : decode cX6_erase 43 = .ok (.getfield 153, 3) := by decide +kernel
theorem dX6_erase_46 : decode cX6_erase 46 = .ok (.ireturn, 1) := by decide +kernel
theorem dX6_flip_0 : decode cX6_flip 0 = .ok (.aload_n 0, 1) := by decide +kernel
theorem dX6_flip_1 : decode cX6_flip 1 = .ok (.getfield 84, 3) := by decide +kernel
theorem dX6_flip_4 : decode cX6_flip 4 = .ok (.ifCond .ne 6, 3) := by decide +kernel
theorem dX6_flip_7 : decode cX6_flip 7 = .ok (.bipush (-3), 2) := by decide +kernel
theorem dX6_flip_9 : decode cX6_flip 9 = .ok (.ireturn, 1) := by decide +kernel
theorem dX6_flip_10 : decode cX6_flip 10 = .ok (.aload_n 0, 1) := by decide +kernel
theorem dX6_flip_11 : decode cX6_flip 11 = .ok (.iload_n 1, 1) := by decide +kernel
theorem dX6_flip_12 : decode cX6_flip 12 = .ok (.invokevirtual 143, 3) := by decide +kernel
theorem dX6_flip_15 : decode cX6_flip 15 = .ok (.ifCond .eq 11, 3) := by decide +kernel
theorem dX6_flip_18 : decode cX6_flip 18 = .ok (.aload_n 0, 1) := by decide +kernel
theorem dX6_flip_19 : decode cX6_flip 19 = .ok (.iload_n 2, 1) := by decide +kernel
theorem dX6_flip_20 : decode cX6_flip 20 = .ok (.invokevirtual 156, 3) := by decide +kernel
theorem dX6_flip_23 : decode cX6_flip 23 = .ok (.ifCond .ne 6, 3) := by decide +kernel
theorem dX6_flip_26 : decode cX6_flip 26 = .ok (.bipush (-2), 2) := by decide +kernel
theorem dX6_flip_28 : decode cX6_flip 28 = .ok (.ireturn, 1) := by decide +kernel
theorem dX6_flip_29 : decode cX6_flip 29 = .ok (.aload_n 0, 1) := by decide +kernel
theorem dX6_flip_30 : decode cX6_flip 30 = .ok (.getfield 36, 3) := by decide +kernel
theorem dX6_flip_33 : decode cX6_flip 33 = .ok (.iload_n 1, 1) := by decide +kernel
theorem dX6_flip_34 : decode cX6_flip 34 = .ok (.aaload, 1) := by decide +kernel
theorem dX6_flip_35 : decode cX6_flip 35 = .ok (.iload_n 2, 1) := by decide +kernel
theorem dX6_flip_36 : decode cX6_flip 36 = .ok (.invokevirtual 159, 3) := by decide +kernel
theorem dX6_flip_39 : decode cX6_flip 39 = .ok (.ireturn, 1) := by decide +kernel
theorem dX6_stick_0 : decode cX6_stick 0 = .ok (.aload_n 0, 1) := by decide +kernel
theorem dX6_stick_1 : decode cX6_stick 1 = .ok (.getfield 84, 3) := by decide +kernel
theorem dX6_stick_4 : decode cX6_stick 4 = .ok (.ifCond .ne 6, 3) := by decide +kernel
theorem dX6_stick_7 : decode cX6_stick 7 = .ok (.bipush (-3), 2) := by decide +kernel
theorem dX6_stick_9 : decode cX6_stick 9 = .ok (.ireturn, 1) := by decide +kernel
theorem dX6_stick_10 : decode cX6_stick 10 = .ok (.aload_n 0, 1) := by decide +kernel
theorem dX6_stick_11 : decode cX6_stick 11 = .ok (.iload_n 1, 1) := by decide +kernel
theorem dX6_stick_12 : decode cX6_stick 12 = .ok (.invokevirtual 143, 3) := by decide +kernel
theorem dX6_stick_15 : decode cX6_stick 15 = .ok (.ifCond .eq 21, 3) := by decide +kernel
theorem dX6_stick_18 : decode cX6_stick 18 = .ok (.aload_n 0, 1) := by decide +kernel
theorem dX6_stick_19 : decode cX6_stick 19 = .ok (.iload_n 2, 1) := by decide +kernel
theorem dX6_stick_20 : decode cX6_stick 20 = .ok (.invokevirtual 156, 3) := by decide +kernel
theorem dX6_stick_23 : decode cX6_stick 23 = .ok (.ifCond .eq 13, 3) := by decide +kernel
theorem dX6_stick_26 : decode cX6_stick 26 = .ok (.iload_n 3, 1) := by decide +kernel
theorem dX6_stick_27 : decode cX6_stick 27 = .ok (.iconst (-1), 1) := by decide +kernel
theorem dX6_stick_28 : decode cX6_stick 28 = .ok (.if_icmp .lt 8, 3) := by decide +kernel
theorem dX6_stick_31 : decode cX6_stick 31 = .ok (.iload_n 3, 1) := by decide +kernel
theorem dX6_stick_32 : decode cX6_stick 32 = .ok (.iconst 1, 1) := by decide +kernel
theorem dX6_stick_33 : decode cX6_stick 33 = .ok (.if_icmp .le 6, 3) := by decide +kernel
theorem dX6_stick_36 : decode cX6_stick 36 = .ok (.bipush (-2), 2) := by decide +kernel
theorem dX6_stick_38 : decode cX6_stick 38 = .ok (.ireturn, 1) := by decide +kernel
theorem dX6_stick_39 : decode cX6_stick 39 = .ok (.aload_n 0, 1) := by decide +kernel
theorem dX6_stick_40 : decode cX6_stick 40 = .ok (.getfield 36, 3) := by decide +kernel
theorem dX6_stick_43 : decode cX6_stick 43 = .ok (.iload_n 1, 1) := by decide +kernel
theorem dX6_stick_44 : decode cX6_stick 44 = .ok (.aaload, 1) := by decide +kernel
theorem dX6_stick_45 : decode cX6_stick 45 = .ok (.iload_n 2, 1) := by decide +kernel
theorem dX6_stick_46 : decode cX6_stick 46 = .ok (.iload_n 3, 1) := by decide +kernel
theorem dX6_stick_47 : decode cX6_stick 47 = .ok (.invokevirtual 162, 3) := by decide +kernel
theorem dX6_stick_50 : decode cX6_stick 50 = .ok (.aload_n 0, 1) := by decide +kernel
theorem dX6_stick_51 : decode cX6_stick 51 = .ok (.getfield 36, 3) := by decide +kernel
theorem dX6_stick_54 : decode cX6_stick 54 = .ok (.iload_n 1, 1) := by decide +kernel
theorem dX6_stick_55 : decode cX6_stick 55 = .ok (.aaload, 1) := by decide +kernel
theorem dX6_stick_56 : decode cX6_stick 56 = .ok (.getfield 165, 3) := by decide +kernel
theorem dX6_stick_59 : decode cX6_stick 59 = .ok (.invokevirtual 168, 3) := by decide +kernel
theorem dX6_stick_62 : decode cX6_stick 62 = .ok (.ireturn, 1) := by decide +kernel
theorem dX6_mark_0 : decode cX6_mark 0 = .ok (.aload_n 0, 1) := by decide +kernel
theorem dX6_mark_1 : decode cX6_mark 1 = .ok (.getfield 84, 3) := by decide +kernel
theorem dX6_mark_4 : decode cX6_mark 4 = .ok (.ifCond .ne 6, 3) := by decide +kernel
theorem dX6_mark_7 : decode cX6_mark 7 = .ok (.bipush (-3), 2) := by decide +kernel
theorem dX6_mark_9 : decode cX6_mark 9 = .ok (.ireturn, 1) := by decide +kernel
theorem dX6_mark_10 : decode cX6_mark 10 = .ok (.aload_n 0, 1) := by decide +kernel
theorem dX6_mark_11 : decode cX6_mark 11 = .ok (.iload_n 1, 1) := by decide +kernel
theorem dX6_mark_12 : decode cX6_mark 12 = .ok (.invokevirtual 143, 3) := by decide +kernel
theorem dX6_mark_15 : decode cX6_mark 15 = .ok (.ifCond .eq 11, 3) := by decide +kernel
theorem dX6_mark_18 : decode cX6_mark 18 = .ok (.aload_n 0, 1) := by decide +kernel
theorem dX6_mark_19 : decode cX6_mark 19 = .ok (.iload_n 2, 1) := by decide +kernel
theorem dX6_mark_20 : decode cX6_mark 20 = .ok (.invokevirtual 156, 3) := by decide +kernel
theorem dX6_mark_23 : decode cX6_mark 23 = .ok (.ifCond .ne 6, 3) := by decide +kernel
theorem dX6_mark_26 : decode cX6_mark 26 = .ok (.bipush (-2), 2) := by decide +kernel
theorem dX6_mark_28 : decode cX6_mark 28 = .ok (.ireturn, 1) := by decide +kernel
theorem dX6_mark_29 : decode cX6_mark 29 = .ok (.aload_n 0, 1) := by decide +kernel
theorem dX6_mark_30 : decode cX6_mark 30 = .ok (.getfield 36, 3) := by decide +kernel
theorem dX6_mark_33 : decode cX6_mark 33 = .ok (.iload_n 1, 1) := by decide +kernel
theorem dX6_mark_34 : decode cX6_mark 34 = .ok (.aaload, 1) := by decide +kernel
theorem dX6_mark_35 : decode cX6_mark 35 = .ok (.getfield 171, 3) := by decide +kernel
theorem dX6_mark_38 : decode cX6_mark 38 = .ok (.iload_n 2, 1) := by decide +kernel
theorem dX6_mark_39 : decode cX6_mark 39 = .ok (.iload_n 3, 1) := by decide +kernel
theorem dX6_mark_40 : decode cX6_mark 40 = .ok (.ifCond .eq 7, 3) := by decide +kernel
theorem dX6_mark_43 : decode cX6_mark 43 = .ok (.iconst 1, 1) := by decide +kernel
theorem dX6_mark_44 : decode cX6_mark 44 = .ok (.goto 4, 3) := by decide +kernel
theorem dX6_mark_47 : decode cX6_mark 47 = .ok (.iconst 0, 1) := by decide +kernel
theorem dX6_mark_48 : decode cX6_mark 48 = .ok (.invokevirtual 174, 3) := by decide +kernel
theorem dX6_mark_51 : decode cX6_mark 51 = .ok (.aload_n 0, 1) := by decide +kernel
theorem dX6_mark_52 : decode cX6_mark 52 = .ok (.getfield 36, 3) := by decide +kernel
theorem dX6_mark_55 : decode cX6_mark 55 = .ok (.iload_n 1, 1) := by decide +kernel
theorem dX6_mark_56 : decode cX6_mark 56 = .ok (.aaload, 1) := by decide +kernel
theorem dX6_mark_57 : decode cX6_mark 57 = .ok (.getfield 171, 3) := by decide +kernel
theorem dX6_mark_60 : decode cX6_mark 60 = .ok (.invokevirtual 168, 3) := by decide +kernel
theorem dX6_mark_63 : decode cX6_mark 63 = .ok (.ireturn, 1) := by decide +kernel
theorem dX6_bit_0 : decode cX6_bit 0 = .ok (.aload_n 0, 1) := by decide +kernel
theorem dX6_bit_1 : decode cX6_bit 1 = .ok (.getfield 84, 3) := by decide +kernel
theorem dX6_bit_4 : decode cX6_bit 4 = .ok (.ifCond .ne 6, 3) := by decide +kernel
theorem dX6_bit_7 : decode cX6_bit 7 = .ok (.bipush (-3), 2) := by decide +kernel
theorem dX6_bit_9 : decode cX6_bit 9 = .ok (.ireturn, 1) := by decide +kernel
theorem dX6_bit_10 : decode cX6_bit 10 = .ok (.aload_n 0, 1) := by decide +kernel
theorem dX6_bit_11 : decode cX6_bit 11 = .ok (.iload_n 1, 1) := by decide +kernel
theorem dX6_bit_12 : decode cX6_bit 12 = .ok (.invokevirtual 143, 3) := by decide +kernel
theorem dX6_bit_15 : decode cX6_bit 15 = .ok (.ifCond .eq 11, 3) := by decide +kernel
theorem dX6_bit_18 : decode cX6_bit 18 = .ok (.aload_n 0, 1) := by decide +kernel
theorem dX6_bit_19 : decode cX6_bit 19 = .ok (.iload_n 2, 1) := by decide +kernel
theorem dX6_bit_20 : decode cX6_bit 20 = .ok (.invokevirtual 156, 3) := by decide +kernel
theorem dX6_bit_23 : decode cX6_bit 23 = .ok (.ifCond .ne 6, 3) := by decide +kernel
theorem dX6_bit_26 : decode cX6_bit 26 = .ok (.bipush (-2), 2) := by decide +kernel
theorem dX6_bit_28 : decode cX6_bit 28 = .ok (.ireturn, 1) := by decide +kernel
theorem dX6_bit_29 : decode cX6_bit 29 = .ok (.aload_n 0, 1) := by decide +kernel
theorem dX6_bit_30 : decode cX6_bit 30 = .ok (.getfield 36, 3) := by decide +kernel
theorem dX6_bit_33 : decode cX6_bit 33 = .ok (.iload_n 1, 1) := by decide +kernel
theorem dX6_bit_34 : decode cX6_bit 34 = .ok (.aaload, 1) := by decide +kernel
theorem dX6_bit_35 : decode cX6_bit 35 = .ok (.getfield 177, 3) := by decide +kernel
theorem dX6_bit_38 : decode cX6_bit 38 = .ok (.iload_n 2, 1) := by decide +kernel
theorem dX6_bit_39 : decode cX6_bit 39 = .ok (.invokevirtual 140, 3) := by decide +kernel
theorem dX6_bit_42 : decode cX6_bit 42 = .ok (.ireturn, 1) := by decide +kernel
theorem dX6_read_0 : decode cX6_read 0 = .ok (.aload_n 0, 1) := by decide +kernel
theorem dX6_read_1 : decode cX6_read 1 = .ok (.getfield 84, 3) := by decide +kernel
theorem dX6_read_4 : decode cX6_read 4 = .ok (.ifCond .ne 6, 3) := by decide +kernel
theorem dX6_read_7 : decode cX6_read 7 = .ok (.bipush (-3), 2) := by decide +kernel
theorem dX6_read_9 : decode cX6_read 9 = .ok (.ireturn, 1) := by decide +kernel
theorem dX6_read_10 : decode cX6_read 10 = .ok (.aload_n 0, 1) := by decide +kernel
theorem dX6_read_11 : decode cX6_read 11 = .ok (.iload_n 1, 1) := by decide +kernel
theorem dX6_read_12 : decode cX6_read 12 = .ok (.invokevirtual 143, 3) := by decide +kernel
theorem dX6_read_15 : decode cX6_read 15 = .ok (.ifCond .ne 6, 3) := by decide +kernel
theorem dX6_read_18 : decode cX6_read 18 = .ok (.bipush (-2), 2) := by decide +kernel
theorem dX6_read_20 : decode cX6_read 20 = .ok (.ireturn, 1) := by decide +kernel
theorem dX6_read_21 : decode cX6_read 21 = .ok (.aload_n 0, 1) := by decide +kernel
theorem dX6_read_22 : decode cX6_read 22 = .ok (.getfield 30, 3) := by decide +kernel
theorem dX6_read_25 : decode cX6_read 25 = .ok (.aload_n 0, 1) := by decide +kernel
theorem dX6_read_26 : decode cX6_read 26 = .ok (.getfield 36, 3) := by decide +kernel
theorem dX6_read_29 : decode cX6_read 29 = .ok (.iload_n 1, 1) := by decide +kernel
theorem dX6_read_30 : decode cX6_read 30 = .ok (.aaload, 1) := by decide +kernel
theorem dX6_read_31 : decode cX6_read 31 = .ok (.invokevirtual 180, 3) := by decide +kernel
theorem dX6_read_34 : decode cX6_read 34 = .ok (.istore_n 2, 1) := by decide +kernel
theorem dX6_read_35 : decode cX6_read 35 = .ok (.iload_n 2, 1) := by decide +kernel
theorem dX6_read_36 : decode cX6_read 36 = .ok (.bipush (-4), 2) := by decide +kernel
theorem dX6_read_38 : decode cX6_read 38 = .ok (.if_icmp .ne 16, 3) := by decide +kernel
theorem dX6_read_41 : decode cX6_read 41 = .ok (.aload_n 0, 1) := by decide +kernel
theorem dX6_read_42 : decode cX6_read 42 = .ok (.dup, 1) := by decide +kernel
theorem dX6_read_43 : decode cX6_read 43 = .ok (.getfield 81, 3) := by decide +kernel
theorem dX6_read_46 : decode cX6_read 46 = .ok (.iconst 1, 1) := by decide +kernel
theorem dX6_read_47 : decode cX6_read 47 = .ok (.iadd, 1) := by decide +kernel
theorem dX6_read_48 : decode cX6_read 48 = .ok (.putfield 81, 3) := by decide +kernel
end
section
theorem dX6_read_51 : decode cX6_read 51 = .ok (.bipush (-4), 2) := by decide +kernel
theorem dX6_read_53 : decode cX6_read 53 = .ok (.ireturn, 1) := by decide +kernel
theorem dX6_read_54 : decode cX6_read 54 = .ok (.iload_n 2, 1) := by decide +kernel
theorem dX6_read_55 : decode cX6_read 55 = .ok (.ifCond .ne 16, 3) := by decide +kernel
theorem dX6_read_58 : decode cX6_read 58 = .ok (.aload_n 0, 1) := by decide +kernel
theorem dX6_read_59 : decode cX6_read 59 = .ok (.dup, 1) := by decide +kernel
theorem dX6_read_60 : decode cX6_read 60 = .ok (.getfield 78, 3) := by decide +kernel
theorem dX6_read_63 : decode cX6_read 63 = .ok (.iconst 1, 1) := by decide +kernel
theorem dX6_read_64 : decode cX6_read 64 = .ok (.iadd, 1) := by decide +kernel
theorem dX6_read_65 : decode cX6_read 65 = .ok (.putfield 78, 3) := by decide +kernel
theorem dX6_read_68 : decode cX6_read 68 = .ok (.goto 13, 3) := by decide +kernel
theorem dX6_read_71 : decode cX6_read 71 = .ok (.aload_n 0, 1) := by decide +kernel
theorem dX6_read_72 : decode cX6_read 72 = .ok (.dup, 1) := by decide +kernel
theorem dX6_read_73 : decode cX6_read 73 = .ok (.getfield 74, 3) := by decide +kernel
theorem dX6_read_76 : decode cX6_read 76 = .ok (.iconst 1, 1) := by decide +kernel
theorem dX6_read_77 : decode cX6_read 77 = .ok (.iadd, 1) := by decide +kernel
theorem dX6_read_78 : decode cX6_read 78 = .ok (.putfield 74, 3) := by decide +kernel
theorem dX6_read_81 : decode cX6_read 81 = .ok (.aload_n 0, 1) := by decide +kernel
theorem dX6_read_82 : decode cX6_read 82 = .ok (.getfield 44, 3) := by decide +kernel
theorem dX6_read_85 : decode cX6_read 85 = .ok (.aload_n 0, 1) := by decide +kernel
theorem dX6_read_86 : decode cX6_read 86 = .ok (.getfield 30, 3) := by decide +kernel
theorem dX6_read_89 : decode cX6_read 89 = .ok (.getfield 184, 3) := by decide +kernel
theorem dX6_read_92 : decode cX6_read 92 = .ok (.invokevirtual 187, 3) := by decide +kernel
theorem dX6_read_95 : decode cX6_read 95 = .ok (.aload_n 0, 1) := by decide +kernel
theorem dX6_read_96 : decode cX6_read 96 = .ok (.getfield 48, 3) := by decide +kernel
theorem dX6_read_99 : decode cX6_read 99 = .ok (.aload_n 0, 1) := by decide +kernel
theorem dX6_read_100 : decode cX6_read 100 = .ok (.getfield 30, 3) := by decide +kernel
theorem dX6_read_103 : decode cX6_read 103 = .ok (.getfield 184, 3) := by decide +kernel
theorem dX6_read_106 : decode cX6_read 106 = .ok (.aload_n 0, 1) := by decide +kernel
theorem dX6_read_107 : decode cX6_read 107 = .ok (.getfield 36, 3) := by decide +kernel
theorem dX6_read_110 : decode cX6_read 110 = .ok (.iload_n 1, 1) := by decide +kernel
theorem dX6_read_111 : decode cX6_read 111 = .ok (.aaload, 1) := by decide +kernel
theorem dX6_read_112 : decode cX6_read 112 = .ok (.getfield 177, 3) := by decide +kernel
theorem dX6_read_115 : decode cX6_read 115 = .ok (.invokevirtual 189, 3) := by decide +kernel
theorem dX6_read_118 : decode cX6_read 118 = .ok (.iload_n 2, 1) := by decide +kernel
theorem dX6_read_119 : decode cX6_read 119 = .ok (.ireturn, 1) := by decide +kernel
theorem dX6_turned_0 : decode cX6_turned 0 = .ok (.iconst 0, 1) := by decide +kernel
theorem dX6_turned_1 : decode cX6_turned 1 = .ok (.istore_n 2, 1) := by decide +kernel
theorem dX6_turned_2 : decode cX6_turned 2 = .ok (.iconst 0, 1) := by decide +kernel
theorem dX6_turned_3 : decode cX6_turned 3 = .ok (.istore_n 3, 1) := by decide +kernel
theorem dX6_turned_4 : decode cX6_turned 4 = .ok (.iload_n 3, 1) := by decide +kernel
theorem dX6_turned_5 : decode cX6_turned 5 = .ok (.aload_n 0, 1) := by decide +kernel
theorem dX6_turned_6 : decode cX6_turned 6 = .ok (.getfield 21, 3) := by decide +kernel
theorem dX6_turned_9 : decode cX6_turned 9 = .ok (.getfield 193, 3) := by decide +kernel
theorem dX6_turned_12 : decode cX6_turned 12 = .ok (.if_icmp .ge 31, 3) := by decide +kernel
theorem dX6_turned_15 : decode cX6_turned 15 = .ok (.aload_n 0, 1) := by decide +kernel
theorem dX6_turned_16 : decode cX6_turned 16 = .ok (.getfield 48, 3) := by decide +kernel
theorem dX6_turned_19 : decode cX6_turned 19 = .ok (.iload_n 3, 1) := by decide +kernel
theorem dX6_turned_20 : decode cX6_turned 20 = .ok (.invokevirtual 140, 3) := by decide +kernel
theorem dX6_turned_23 : decode cX6_turned 23 = .ok (.iconst 1, 1) := by decide +kernel
theorem dX6_turned_24 : decode cX6_turned 24 = .ok (.if_icmp .ne 13, 3) := by decide +kernel
theorem dX6_turned_27 : decode cX6_turned 27 = .ok (.iload_n 2, 1) := by decide +kernel
theorem dX6_turned_28 : decode cX6_turned 28 = .ok (.iload_n 1, 1) := by decide +kernel
theorem dX6_turned_29 : decode cX6_turned 29 = .ok (.if_icmp .ne 5, 3) := by decide +kernel
theorem dX6_turned_32 : decode cX6_turned 32 = .ok (.iload_n 3, 1) := by decide +kernel
theorem dX6_turned_33 : decode cX6_turned 33 = .ok (.ireturn, 1) := by decide +kernel
theorem dX6_turned_34 : decode cX6_turned 34 = .ok (.iinc 2 1, 3) := by decide +kernel
theorem dX6_turned_37 : decode cX6_turned 37 = .ok (.iinc 3 1, 3) := by decide +kernel
theorem dX6_turned_40 : decode cX6_turned 40 = .ok (.goto (-36), 3) := by decide +kernel
theorem dX6_turned_43 : decode cX6_turned 43 = .ok (.iconst (-1), 1) := by decide +kernel
theorem dX6_turned_44 : decode cX6_turned 44 = .ok (.ireturn, 1) := by decide +kernel
theorem dX6_syndrome_0 : decode cX6_syndrome 0 = .ok (.aload_n 0, 1) := by decide +kernel
theorem dX6_syndrome_1 : decode cX6_syndrome 1 = .ok (.getfield 84, 3) := by decide +kernel
theorem dX6_syndrome_4 : decode cX6_syndrome 4 = .ok (.ifCond .ne 6, 3) := by decide +kernel
theorem dX6_syndrome_7 : decode cX6_syndrome 7 = .ok (.bipush (-3), 2) := by decide +kernel
theorem dX6_syndrome_9 : decode cX6_syndrome 9 = .ok (.ireturn, 1) := by decide +kernel
theorem dX6_syndrome_10 : decode cX6_syndrome 10 = .ok (.aload_n 0, 1) := by decide +kernel
theorem dX6_syndrome_11 : decode cX6_syndrome 11 = .ok (.iload_n 1, 1) := by decide +kernel
theorem dX6_syndrome_12 : decode cX6_syndrome 12 = .ok (.invokevirtual 143, 3) := by decide +kernel
theorem dX6_syndrome_15 : decode cX6_syndrome 15 = .ok (.ifCond .eq 21, 3) := by decide +kernel
theorem dX6_syndrome_18 : decode cX6_syndrome 18 = .ok (.iload_n 2, 1) := by decide +kernel
theorem dX6_syndrome_19 : decode cX6_syndrome 19 = .ok (.iconst 1, 1) := by decide +kernel
theorem dX6_syndrome_20 : decode cX6_syndrome 20 = .ok (.if_icmp .lt 16, 3) := by decide +kernel
theorem dX6_syndrome_23 : decode cX6_syndrome 23 = .ok (.iload_n 2, 1) := by decide +kernel
theorem dX6_syndrome_24 : decode cX6_syndrome 24 = .ok (.iconst 2, 1) := by decide +kernel
theorem dX6_syndrome_25 : decode cX6_syndrome 25 = .ok (.aload_n 0, 1) := by decide +kernel
theorem dX6_syndrome_26 : decode cX6_syndrome 26 = .ok (.getfield 21, 3) := by decide +kernel
theorem dX6_syndrome_29 : decode cX6_syndrome 29 = .ok (.getfield 196, 3) := by decide +kernel
theorem dX6_syndrome_32 : decode cX6_syndrome 32 = .ok (.imul, 1) := by decide +kernel
theorem dX6_syndrome_33 : decode cX6_syndrome 33 = .ok (.if_icmp .le 6, 3) := by decide +kernel
theorem dX6_syndrome_36 : decode cX6_syndrome 36 = .ok (.bipush (-2), 2) := by decide +kernel
theorem dX6_syndrome_38 : decode cX6_syndrome 38 = .ok (.ireturn, 1) := by decide +kernel
theorem dX6_syndrome_39 : decode cX6_syndrome 39 = .ok (.aload_n 0, 1) := by decide +kernel
theorem dX6_syndrome_40 : decode cX6_syndrome 40 = .ok (.getfield 21, 3) := by decide +kernel
theorem dX6_syndrome_43 : decode cX6_syndrome 43 = .ok (.aload_n 0, 1) := by decide +kernel
theorem dX6_syndrome_44 : decode cX6_syndrome 44 = .ok (.getfield 36, 3) := by decide +kernel
theorem dX6_syndrome_47 : decode cX6_syndrome 47 = .ok (.iload_n 1, 1) := by decide +kernel
theorem dX6_syndrome_48 : decode cX6_syndrome 48 = .ok (.aaload, 1) := by decide +kernel
theorem dX6_syndrome_49 : decode cX6_syndrome 49 = .ok (.getfield 177, 3) := by decide +kernel
theorem dX6_syndrome_52 : decode cX6_syndrome 52 = .ok (.invokevirtual 199, 3) := by decide +kernel
theorem dX6_syndrome_55 : decode cX6_syndrome 55 = .ok (.pop, 1) := by decide +kernel
theorem dX6_syndrome_56 : decode cX6_syndrome 56 = .ok (.aload_n 0, 1) := by decide +kernel
theorem dX6_syndrome_57 : decode cX6_syndrome 57 = .ok (.getfield 21, 3) := by decide +kernel
theorem dX6_syndrome_60 : decode cX6_syndrome 60 = .ok (.iload_n 2, 1) := by decide +kernel
theorem dX6_syndrome_61 : decode cX6_syndrome 61 = .ok (.invokevirtual 203, 3) := by decide +kernel
theorem dX6_syndrome_64 : decode cX6_syndrome 64 = .ok (.ireturn, 1) := by decide +kernel
theorem dX6_copy_0 : decode cX6_copy 0 = .ok (.aload_n 0, 1) := by decide +kernel
theorem dX6_copy_1 : decode cX6_copy 1 = .ok (.getfield 84, 3) := by decide +kernel
theorem dX6_copy_4 : decode cX6_copy 4 = .ok (.ifCond .ne 6, 3) := by decide +kernel
theorem dX6_copy_7 : decode cX6_copy 7 = .ok (.bipush (-3), 2) := by decide +kernel
theorem dX6_copy_9 : decode cX6_copy 9 = .ok (.ireturn, 1) := by decide +kernel
theorem dX6_copy_10 : decode cX6_copy 10 = .ok (.aload_n 0, 1) := by decide +kernel
theorem dX6_copy_11 : decode cX6_copy 11 = .ok (.iload_n 1, 1) := by decide +kernel
theorem dX6_copy_12 : decode cX6_copy 12 = .ok (.invokevirtual 143, 3) := by decide +kernel
theorem dX6_copy_15 : decode cX6_copy 15 = .ok (.ifCond .eq 11, 3) := by decide +kernel
theorem dX6_copy_18 : decode cX6_copy 18 = .ok (.aload_n 0, 1) := by decide +kernel
theorem dX6_copy_19 : decode cX6_copy 19 = .ok (.iload_n 2, 1) := by decide +kernel
theorem dX6_copy_20 : decode cX6_copy 20 = .ok (.invokevirtual 143, 3) := by decide +kernel
theorem dX6_copy_23 : decode cX6_copy 23 = .ok (.ifCond .ne 6, 3) := by decide +kernel
theorem dX6_copy_26 : decode cX6_copy 26 = .ok (.bipush (-2), 2) := by decide +kernel
theorem dX6_copy_28 : decode cX6_copy 28 = .ok (.ireturn, 1) := by decide +kernel
theorem dX6_copy_29 : decode cX6_copy 29 = .ok (.aload_n 0, 1) := by decide +kernel
theorem dX6_copy_30 : decode cX6_copy 30 = .ok (.getfield 30, 3) := by decide +kernel
theorem dX6_copy_33 : decode cX6_copy 33 = .ok (.aload_n 0, 1) := by decide +kernel
theorem dX6_copy_34 : decode cX6_copy 34 = .ok (.getfield 36, 3) := by decide +kernel
theorem dX6_copy_37 : decode cX6_copy 37 = .ok (.iload_n 1, 1) := by decide +kernel
theorem dX6_copy_38 : decode cX6_copy 38 = .ok (.aaload, 1) := by decide +kernel
theorem dX6_copy_39 : decode cX6_copy 39 = .ok (.invokevirtual 180, 3) := by decide +kernel
theorem dX6_copy_42 : decode cX6_copy 42 = .ok (.bipush (-4), 2) := by decide +kernel
theorem dX6_copy_44 : decode cX6_copy 44 = .ok (.if_icmp .ne 6, 3) := by decide +kernel
theorem dX6_copy_47 : decode cX6_copy 47 = .ok (.bipush (-4), 2) := by decide +kernel
theorem dX6_copy_49 : decode cX6_copy 49 = .ok (.ireturn, 1) := by decide +kernel
theorem dX6_copy_50 : decode cX6_copy 50 = .ok (.aload_n 0, 1) := by decide +kernel
theorem dX6_copy_51 : decode cX6_copy 51 = .ok (.aload_n 0, 1) := by decide +kernel
theorem dX6_copy_52 : decode cX6_copy 52 = .ok (.getfield 36, 3) := by decide +kernel
theorem dX6_copy_55 : decode cX6_copy 55 = .ok (.iload_n 2, 1) := by decide +kernel
theorem dX6_copy_56 : decode cX6_copy 56 = .ok (.aaload, 1) := by decide +kernel
theorem dX6_copy_57 : decode cX6_copy 57 = .ok (.invokevirtual 206, 3) := by decide +kernel
theorem dX6_copy_60 : decode cX6_copy 60 = .ok (.ireturn, 1) := by decide +kernel
theorem dX6_refresh_0 : decode cX6_refresh 0 = .ok (.aload_n 0, 1) := by decide +kernel
theorem dX6_refresh_1 : decode cX6_refresh 1 = .ok (.getfield 84, 3) := by decide +kernel
theorem dX6_refresh_4 : decode cX6_refresh 4 = .ok (.ifCond .ne 6, 3) := by decide +kernel
theorem dX6_refresh_7 : decode cX6_refresh 7 = .ok (.bipush (-3), 2) := by decide +kernel
theorem dX6_refresh_9 : decode cX6_refresh 9 = .ok (.ireturn, 1) := by decide +kernel
theorem dX6_refresh_10 : decode cX6_refresh 10 = .ok (.iload_n 1, 1) := by decide +kernel
theorem dX6_refresh_11 : decode cX6_refresh 11 = .ok (.ifCond .lt 9, 3) := by decide +kernel
theorem dX6_refresh_14 : decode cX6_refresh 14 = .ok (.iload_n 1, 1) := by decide +kernel
theorem dX6_refresh_15 : decode cX6_refresh 15 = .ok (.bipush 64, 2) := by decide +kernel
theorem dX6_refresh_17 : decode cX6_refresh 17 = .ok (.if_icmp .le 6, 3) := by decide +kernel
theorem dX6_refresh_20 : decode cX6_refresh 20 = .ok (.bipush (-2), 2) := by decide +kernel
theorem dX6_refresh_22 : decode cX6_refresh 22 = .ok (.ireturn, 1) := by decide +kernel
theorem dX6_refresh_23 : decode cX6_refresh 23 = .ok (.iconst 0, 1) := by decide +kernel
theorem dX6_refresh_24 : decode cX6_refresh 24 = .ok (.istore_n 2, 1) := by decide +kernel
theorem dX6_refresh_25 : decode cX6_refresh 25 = .ok (.iconst 0, 1) := by decide +kernel
theorem dX6_refresh_26 : decode cX6_refresh 26 = .ok (.istore_n 3, 1) := by decide +kernel
theorem dX6_refresh_27 : decode cX6_refresh 27 = .ok (.iload_n 3, 1) := by decide +kernel
theorem dX6_refresh_28 : decode cX6_refresh 28 = .ok (.bipush 16, 2) := by decide +kernel
theorem dX6_refresh_30 : decode cX6_refresh 30 = .ok (.if_icmp .ge 51, 3) := by decide +kernel
theorem dX6_refresh_33 : decode cX6_refresh 33 = .ok (.aload_n 0, 1) := by decide +kernel
theorem dX6_refresh_34 : decode cX6_refresh 34 = .ok (.getfield 30, 3) := by decide +kernel
theorem dX6_refresh_37 : decode cX6_refresh 37 = .ok (.aload_n 0, 1) := by decide +kernel
theorem dX6_refresh_38 : decode cX6_refresh 38 = .ok (.getfield 36, 3) := by decide +kernel
theorem dX6_refresh_41 : decode cX6_refresh 41 = .ok (.iload_n 3, 1) := by decide +kernel
theorem dX6_refresh_42 : decode cX6_refresh 42 = .ok (.aaload, 1) := by decide +kernel
theorem dX6_refresh_43 : decode cX6_refresh 43 = .ok (.invokevirtual 180, 3) := by decide +kernel
theorem dX6_refresh_46 : decode cX6_refresh 46 = .ok (.istore 4, 2) := by decide +kernel
theorem dX6_refresh_48 : decode cX6_refresh 48 = .ok (.iload 4, 2) := by decide +kernel
theorem dX6_refresh_50 : decode cX6_refresh 50 = .ok (.bipush (-4), 2) := by decide +kernel
theorem dX6_refresh_52 : decode cX6_refresh 52 = .ok (.if_icmp .eq 23, 3) := by decide +kernel
theorem dX6_refresh_55 : decode cX6_refresh 55 = .ok (.iload 4, 2) := by decide +kernel
theorem dX6_refresh_57 : decode cX6_refresh 57 = .ok (.iload_n 1, 1) := by decide +kernel
theorem dX6_refresh_58 : decode cX6_refresh 58 = .ok (.if_icmp .lt 17, 3) := by decide +kernel
theorem dX6_refresh_61 : decode cX6_refresh 61 = .ok (.aload_n 0, 1) := by decide +kernel
theorem dX6_refresh_62 : decode cX6_refresh 62 = .ok (.aload_n 0, 1) := by decide +kernel
theorem dX6_refresh_63 : decode cX6_refresh 63 = .ok (.getfield 36, 3) := by decide +kernel
theorem dX6_refresh_66 : decode cX6_refresh 66 = .ok (.iload_n 3, 1) := by decide +kernel
theorem dX6_refresh_67 : decode cX6_refresh 67 = .ok (.aaload, 1) := by decide +kernel
theorem dX6_refresh_68 : decode cX6_refresh 68 = .ok (.invokevirtual 206, 3) := by decide +kernel
theorem dX6_refresh_71 : decode cX6_refresh 71 = .ok (.pop, 1) := by decide +kernel
theorem dX6_refresh_72 : decode cX6_refresh 72 = .ok (.iinc 2 1, 3) := by decide +kernel
theorem dX6_refresh_75 : decode cX6_refresh 75 = .ok (.iinc 3 1, 3) := by decide +kernel
theorem dX6_refresh_78 : decode cX6_refresh 78 = .ok (.goto (-51), 3) := by decide +kernel
theorem dX6_refresh_81 : decode cX6_refresh 81 = .ok (.iload_n 2, 1) := by decide +kernel
theorem dX6_refresh_82 : decode cX6_refresh 82 = .ok (.ireturn, 1) := by decide +kernel
theorem dX6_told_0 : decode cX6_told 0 = .ok (.aload_n 0, 1) := by decide +kernel
theorem dX6_told_1 : decode cX6_told 1 = .ok (.getfield 84, 3) := by decide +kernel
theorem dX6_told_4 : decode cX6_told 4 = .ok (.ifCond .ne 6, 3) := by decide +kernel
theorem dX6_told_7 : decode cX6_told 7 = .ok (.bipush (-3), 2) := by decide +kernel
theorem dX6_told_9 : decode cX6_told 9 = .ok (.ireturn, 1) := by decide +kernel
theorem dX6_told_10 : decode cX6_told 10 = .ok (.aload_n 0, 1) := by decide +kernel
theorem dX6_told_11 : decode cX6_told 11 = .ok (.iload_n 1, 1) := by decide +kernel
theorem dX6_told_12 : decode cX6_told 12 = .ok (.invokevirtual 143, 3) := by decide +kernel
theorem dX6_told_15 : decode cX6_told 15 = .ok (.ifCond .eq 13, 3) := by decide +kernel
theorem dX6_told_18 : decode cX6_told 18 = .ok (.iload_n 2, 1) := by decide +kernel
theorem dX6_told_19 : decode cX6_told 19 = .ok (.ifCond .lt 9, 3) := by decide +kernel
theorem dX6_told_22 : decode cX6_told 22 = .ok (.iload_n 2, 1) := by decide +kernel
theorem dX6_told_23 : decode cX6_told 23 = .ok (.bipush 19, 2) := by decide +kernel
theorem dX6_told_25 : decode cX6_told 25 = .ok (.if_icmp .le 6, 3) := by decide +kernel
theorem dX6_told_28 : decode cX6_told 28 = .ok (.bipush (-2), 2) := by decide +kernel
theorem dX6_told_30 : decode cX6_told 30 = .ok (.ireturn, 1) := by decide +kernel
theorem dX6_told_31 : decode cX6_told 31 = .ok (.aload_n 0, 1) := by decide +kernel
theorem dX6_told_32 : decode cX6_told 32 = .ok (.getfield 36, 3) := by decide +kernel
theorem dX6_told_35 : decode cX6_told 35 = .ok (.iload_n 1, 1) := by decide +kernel
theorem dX6_told_36 : decode cX6_told 36 = .ok (.aaload, 1) := by decide +kernel
theorem dX6_told_37 : decode cX6_told 37 = .ok (.astore_n 3, 1) := by decide +kernel
theorem dX6_told_38 : decode cX6_told 38 = .ok (.iload_n 2, 1) := by decide +kernel
theorem dX6_told_39 : decode cX6_told 39 = .ok (.tableswitch 66 0 3 #[29, 34, 42, 50], 29) := by decide +kernel
theorem dX6_told_68 : decode cX6_told 68 = .ok (.aload_n 3, 1) := by decide +kernel
theorem dX6_told_69 : decode cX6_told 69 = .ok (.getfield 153, 3) := by decide +kernel
theorem dX6_told_72 : decode cX6_told 72 = .ok (.ireturn, 1) := by decide +kernel
theorem dX6_told_73 : decode cX6_told 73 = .ok (.aload_n 3, 1) := by decide +kernel
theorem dX6_told_74 : decode cX6_told 74 = .ok (.getfield 171, 3) := by decide +kernel
theorem dX6_told_77 : decode cX6_told 77 = .ok (.invokevirtual 168, 3) := by decide +kernel
theorem dX6_told_80 : decode cX6_told 80 = .ok (.ireturn, 1) := by decide +kernel
theorem dX6_told_81 : decode cX6_told 81 = .ok (.aload_n 3, 1) := by decide +kernel
theorem dX6_told_82 : decode cX6_told 82 = .ok (.getfield 165, 3) := by decide +kernel
theorem dX6_told_85 : decode cX6_told 85 = .ok (.invokevirtual 168, 3) := by decide +kernel
theorem dX6_told_88 : decode cX6_told 88 = .ok (.ireturn, 1) := by decide +kernel
theorem dX6_told_89 : decode cX6_told 89 = .ok (.aload_n 0, 1) := by decide +kernel
theorem dX6_told_90 : decode cX6_told 90 = .ok (.getfield 21, 3) := by decide +kernel
theorem dX6_told_93 : decode cX6_told 93 = .ok (.getfield 193, 3) := by decide +kernel
theorem dX6_told_96 : decode cX6_told 96 = .ok (.aload_n 3, 1) := by decide +kernel
theorem dX6_told_97 : decode cX6_told 97 = .ok (.getfield 177, 3) := by decide +kernel
theorem dX6_told_100 : decode cX6_told 100 = .ok (.invokevirtual 168, 3) := by decide +kernel
theorem dX6_told_103 : decode cX6_told 103 = .ok (.isub, 1) := by decide +kernel
theorem dX6_told_104 : decode cX6_told 104 = .ok (.ireturn, 1) := by decide +kernel
theorem dX6_told_105 : decode cX6_told 105 = .ok (.aload_n 3, 1) := by decide +kernel
theorem dX6_told_106 : decode cX6_told 106 = .ok (.getfield 177, 3) := by decide +kernel
theorem dX6_told_109 : decode cX6_told 109 = .ok (.aload_n 0, 1) := by decide +kernel
theorem dX6_told_110 : decode cX6_told 110 = .ok (.getfield 36, 3) := by decide +kernel
theorem dX6_told_113 : decode cX6_told 113 = .ok (.iload_n 1, 1) := by decide +kernel
theorem dX6_told_114 : decode cX6_told 114 = .ok (.iload_n 2, 1) := by decide +kernel
theorem dX6_told_115 : decode cX6_told 115 = .ok (.iadd, 1) := by decide +kernel
theorem dX6_told_116 : decode cX6_told 116 = .ok (.iconst 4, 1) := by decide +kernel
theorem dX6_told_117 : decode cX6_told 117 = .ok (.isub, 1) := by decide +kernel
theorem dX6_told_118 : decode cX6_told 118 = .ok (.bipush 15, 2) := by decide +kernel
theorem dX6_told_120 : decode cX6_told 120 = .ok (.iand, 1) := by decide +kernel
theorem dX6_told_121 : decode cX6_told 121 = .ok (.aaload, 1) := by decide +kernel
theorem dX6_told_122 : decode cX6_told 122 = .ok (.getfield 177, 3) := by decide +kernel
theorem dX6_told_125 : decode cX6_told 125 = .ok (.invokevirtual 209, 3) := by decide +kernel
theorem dX6_told_128 : decode cX6_told 128 = .ok (.ireturn, 1) := by decide +kernel
theorem dX6_about_0 : decode cX6_about 0 = .ok (.aload_n 0, 1) := by decide +kernel
theorem dX6_about_1 : decode cX6_about 1 = .ok (.getfield 84, 3) := by decide +kernel
theorem dX6_about_4 : decode cX6_about 4 = .ok (.ifCond .ne 6, 3) := by decide +kernel
theorem dX6_about_7 : decode cX6_about 7 = .ok (.bipush (-3), 2) := by decide +kernel
theorem dX6_about_9 : decode cX6_about 9 = .ok (.ireturn, 1) := by decide +kernel
theorem dX6_about_10 : decode cX6_about 10 = .ok (.iload_n 1, 1) := by decide +kernel
theorem dX6_about_11 : decode cX6_about 11 = .ok (.tableswitch 100 0 7 #[45, 53, 61, 69, 77, 85, 90, 95], 45) := by decide +kernel
theorem dX6_about_56 : decode cX6_about 56 = .ok (.aload_n 0, 1) := by decide +kernel
theorem dX6_about_57 : decode cX6_about 57 = .ok (.getfield 12, 3) := by decide +kernel
theorem dX6_about_60 : decode cX6_about 60 = .ok (.getfield 212, 3) := by decide +kernel
theorem dX6_about_63 : decode cX6_about 63 = .ok (.ireturn, 1) := by decide +kernel
theorem dX6_about_64 : decode cX6_about 64 = .ok (.aload_n 0, 1) := by decide +kernel
theorem dX6_about_65 : decode cX6_about 65 = .ok (.getfield 21, 3) := by decide +kernel
theorem dX6_about_68 : decode cX6_about 68 = .ok (.getfield 196, 3) := by decide +kernel
theorem dX6_about_71 : decode cX6_about 71 = .ok (.ireturn, 1) := by decide +kernel
theorem dX6_about_72 : decode cX6_about 72 = .ok (.aload_n 0, 1) := by decide +kernel
theorem dX6_about_73 : decode cX6_about 73 = .ok (.getfield 21, 3) := by decide +kernel
theorem dX6_about_76 : decode cX6_about 76 = .ok (.getfield 129, 3) := by decide +kernel
theorem dX6_about_79 : decode cX6_about 79 = .ok (.ireturn, 1) := by decide +kernel
theorem dX6_about_80 : decode cX6_about 80 = .ok (.aload_n 0, 1) := by decide +kernel
theorem dX6_about_81 : decode cX6_about 81 = .ok (.getfield 21, 3) := by decide +kernel
theorem dX6_about_84 : decode cX6_about 84 = .ok (.getfield 114, 3) := by decide +kernel
theorem dX6_about_87 : decode cX6_about 87 = .ok (.ireturn, 1) := by decide +kernel
theorem dX6_about_88 : decode cX6_about 88 = .ok (.aload_n 0, 1) := by decide +kernel
theorem dX6_about_89 : decode cX6_about 89 = .ok (.getfield 21, 3) := by decide +kernel
theorem dX6_about_92 : decode cX6_about 92 = .ok (.getfield 193, 3) := by decide +kernel
theorem dX6_about_95 : decode cX6_about 95 = .ok (.ireturn, 1) := by decide +kernel
theorem dX6_about_96 : decode cX6_about 96 = .ok (.aload_n 0, 1) := by decide +kernel
theorem dX6_about_97 : decode cX6_about 97 = .ok (.getfield 74, 3) := by decide +kernel
theorem dX6_about_100 : decode cX6_about 100 = .ok (.ireturn, 1) := by decide +kernel
theorem dX6_about_101 : decode cX6_about 101 = .ok (.aload_n 0, 1) := by decide +kernel
theorem dX6_about_102 : decode cX6_about 102 = .ok (.getfield 78, 3) := by decide +kernel
theorem dX6_about_105 : decode cX6_about 105 = .ok (.ireturn, 1) := by decide +kernel
theorem dX6_about_106 : decode cX6_about 106 = .ok (.aload_n 0, 1) := by decide +kernel
theorem dX6_about_107 : decode cX6_about 107 = .ok (.getfield 81, 3) := by decide +kernel
theorem dX6_about_110 : decode cX6_about 110 = .ok (.ireturn, 1) := by decide +kernel
theorem dX6_about_111 : decode cX6_about 111 = .ok (.bipush (-2), 2) := by decide +kernel
theorem dX6_about_113 : decode cX6_about 113 = .ok (.ireturn, 1) := by decide +kernel
theorem dX6_hasByte_0 : decode cX6_hasByte 0 = .ok (.iload_n 1, 1) := by decide +kernel
theorem dX6_hasByte_1 : decode cX6_hasByte 1 = .ok (.ifCond .lt 18, 3) := by decide +kernel
theorem dX6_hasByte_4 : decode cX6_hasByte 4 = .ok (.iload_n 1, 1) := by decide +kernel
theorem dX6_hasByte_5 : decode cX6_hasByte 5 = .ok (.aload_n 0, 1) := by decide +kernel
theorem dX6_hasByte_6 : decode cX6_hasByte 6 = .ok (.getfield 21, 3) := by decide +kernel
theorem dX6_hasByte_9 : decode cX6_hasByte 9 = .ok (.getfield 129, 3) := by decide +kernel
theorem dX6_hasByte_12 : decode cX6_hasByte 12 = .ok (.if_icmp .ge 7, 3) := by decide +kernel
theorem dX6_hasByte_15 : decode cX6_hasByte 15 = .ok (.iconst 1, 1) := by decide +kernel
theorem dX6_hasByte_16 : decode cX6_hasByte 16 = .ok (.goto 4, 3) := by decide +kernel
theorem dX6_hasByte_19 : decode cX6_hasByte 19 = .ok (.iconst 0, 1) := by decide +kernel
theorem dX6_hasByte_20 : decode cX6_hasByte 20 = .ok (.ireturn, 1) := by decide +kernel
theorem dX6_hasPage_0 : decode cX6_hasPage 0 = .ok (.iload_n 1, 1) := by decide +kernel
theorem dX6_hasPage_1 : decode cX6_hasPage 1 = .ok (.ifCond .lt 13, 3) := by decide +kernel
theorem dX6_hasPage_4 : decode cX6_hasPage 4 = .ok (.iload_n 1, 1) := by decide +kernel
theorem dX6_hasPage_5 : decode cX6_hasPage 5 = .ok (.bipush 16, 2) := by decide +kernel
theorem dX6_hasPage_7 : decode cX6_hasPage 7 = .ok (.if_icmp .ge 7, 3) := by decide +kernel
theorem dX6_hasPage_10 : decode cX6_hasPage 10 = .ok (.iconst 1, 1) := by decide +kernel
theorem dX6_hasPage_11 : decode cX6_hasPage 11 = .ok (.goto 4, 3) := by decide +kernel
theorem dX6_hasPage_14 : decode cX6_hasPage 14 = .ok (.iconst 0, 1) := by decide +kernel
theorem dX6_hasPage_15 : decode cX6_hasPage 15 = .ok (.ireturn, 1) := by decide +kernel
theorem dX6_hasBit_0 : decode cX6_hasBit 0 = .ok (.iload_n 1, 1) := by decide +kernel
theorem dX6_hasBit_1 : decode cX6_hasBit 1 = .ok (.ifCond .lt 18, 3) := by decide +kernel
theorem dX6_hasBit_4 : decode cX6_hasBit 4 = .ok (.iload_n 1, 1) := by decide +kernel
theorem dX6_hasBit_5 : decode cX6_hasBit 5 = .ok (.aload_n 0, 1) := by decide +kernel
theorem dX6_hasBit_6 : decode cX6_hasBit 6 = .ok (.getfield 21, 3) := by decide +kernel
theorem dX6_hasBit_9 : decode cX6_hasBit 9 = .ok (.getfield 193, 3) := by decide +kernel
theorem dX6_hasBit_12 : decode cX6_hasBit 12 = .ok (.if_icmp .ge 7, 3) := by decide +kernel
theorem dX6_hasBit_15 : decode cX6_hasBit 15 = .ok (.iconst 1, 1) := by decide +kernel
theorem dX6_hasBit_16 : decode cX6_hasBit 16 = .ok (.goto 4, 3) := by decide +kernel
theorem dX6_hasBit_19 : decode cX6_hasBit 19 = .ok (.iconst 0, 1) := by decide +kernel
theorem dX6_hasBit_20 : decode cX6_hasBit 20 = .ok (.ireturn, 1) := by decide +kernel
theorem dX6_rewrite_0 : decode cX6_rewrite 0 = .ok (.aload_n 1, 1) := by decide +kernel
theorem dX6_rewrite_1 : decode cX6_rewrite 1 = .ok (.aload_n 0, 1) := by decide +kernel
theorem dX6_rewrite_2 : decode cX6_rewrite 2 = .ok (.getfield 21, 3) := by decide +kernel
theorem dX6_rewrite_5 : decode cX6_rewrite 5 = .ok (.getfield 64, 3) := by decide +kernel
theorem dX6_rewrite_8 : decode cX6_rewrite 8 = .ok (.invokevirtual 150, 3) := by decide +kernel
theorem dX6_rewrite_11 : decode cX6_rewrite 11 = .ok (.aload_n 1, 1) := by decide +kernel
theorem dX6_rewrite_12 : decode cX6_rewrite 12 = .ok (.aload_n 0, 1) := by decide +kernel
theorem dX6_rewrite_13 : decode cX6_rewrite 13 = .ok (.getfield 30, 3) := by decide +kernel
theorem dX6_rewrite_16 : decode cX6_rewrite 16 = .ok (.getfield 184, 3) := by decide +kernel
theorem dX6_rewrite_19 : decode cX6_rewrite 19 = .ok (.invokevirtual 146, 3) := by decide +kernel
theorem dX6_rewrite_22 : decode cX6_rewrite 22 = .ok (.ireturn, 1) := by decide +kernel
end
section
theorem dX7_init_0 : decode cX7_init 0 = .ok (.aload_n 0, 1) := by decide +kernel
theorem dX7_init_1 : decode cX7_init 1 = .ok (.invokespecial 1, 3) := by decide +kernel
theorem dX7_init_4 : decode cX7_init 4 = .ok (.aload_n 0, 1) := by decide +kernel
theorem dX7_init_5 : decode cX7_init 5 = .ok (.sipush 8192, 3) := by decide +kernel
theorem dX7_init_8 : decode cX7_init 8 = .ok (.newarray .int, 2) := by decide +kernel
theorem dX7_init_10 : decode cX7_init 10 = .ok (.putfield 7, 3) := by decide +kernel
theorem dX7_init_13 : decode cX7_init 13 = .ok (.aload_n 0, 1) := by decide +kernel
theorem dX7_init_14 : decode cX7_init 14 = .ok (.sipush 8192, 3) := by decide +kernel
theorem dX7_init_17 : decode cX7_init 17 = .ok (.newarray .int, 2) := by decide +kernel
theorem dX7_init_19 : decode cX7_init 19 = .ok (.putfield 13, 3) := by decide +kernel
theorem dX7_init_22 : decode cX7_init 22 = .ok (.aload_n 0, 1) := by decide +kernel
theorem dX7_init_23 : decode cX7_init 23 = .ok (.sipush 210, 3) := by decide +kernel
theorem dX7_init_26 : decode cX7_init 26 = .ok (.newarray .int, 2) := by decide +kernel
theorem dX7_init_28 : decode cX7_init 28 = .ok (.putfield 16, 3) := by decide +kernel
theorem dX7_init_31 : decode cX7_init 31 = .ok (.aload_n 0, 1) := by decide +kernel
theorem dX7_init_32 : decode cX7_init 32 = .ok (.sipush 256, 3) := by decide +kernel
theorem dX7_init_35 : decode cX7_init 35 = .ok (.newarray .int, 2) := by decide +kernel
theorem dX7_init_37 : decode cX7_init 37 = .ok (.putfield 19, 3) := by decide +kernel
theorem dX7_init_40 : decode cX7_init 40 = .ok (.aload_n 0, 1) := by decide +kernel
theorem dX7_init_41 : decode cX7_init 41 = .ok (.ldc 22, 2) := by decide +kernel
theorem dX7_init_43 : decode cX7_init 43 = .ok (.newarray .boolean, 2) := by decide +kernel
theorem dX7_init_45 : decode cX7_init 45 = .ok (.putfield 23, 3) := by decide +kernel
theorem dX7_init_48 : decode cX7_init 48 = .ok (.aload_n 0, 1) := by decide +kernel
theorem dX7_init_49 : decode cX7_init 49 = .ok (.ldc 22, 2) := by decide +kernel
theorem dX7_init_51 : decode cX7_init 51 = .ok (.newarray .int, 2) := by decide +kernel
theorem dX7_init_53 : decode cX7_init 53 = .ok (.putfield 27, 3) := by decide +kernel
theorem dX7_init_56 : decode cX7_init 56 = .ok (.aload_n 0, 1) := by decide +kernel
theorem dX7_init_57 : decode cX7_init 57 = .ok (.ldc 22, 2) := by decide +kernel
theorem dX7_init_59 : decode cX7_init 59 = .ok (.newarray .boolean, 2) := by decide +kernel
theorem dX7_init_61 : decode cX7_init 61 = .ok (.putfield 30, 3) := by decide +kernel
theorem dX7_init_64 : decode cX7_init 64 = .ok (.aload_n 0, 1) := by decide +kernel
theorem dX7_init_65 : decode cX7_init 65 = .ok (.bipush 16, 2) := by decide +kernel
theorem dX7_init_67 : decode cX7_init 67 = .ok (.newarray .int, 2) := by decide +kernel
theorem dX7_init_69 : decode cX7_init 69 = .ok (.putfield 33, 3) := by decide +kernel
theorem dX7_init_72 : decode cX7_init 72 = .ok (.aload_n 0, 1) := by decide +kernel
theorem dX7_init_73 : decode cX7_init 73 = .ok (.sipush 2200, 3) := by decide +kernel
theorem dX7_init_76 : decode cX7_init 76 = .ok (.newarray .int, 2) := by decide +kernel
theorem dX7_init_78 : decode cX7_init 78 = .ok (.putfield 36, 3) := by decide +kernel
theorem dX7_init_81 : decode cX7_init 81 = .ok (.aload_n 0, 1) := by decide +kernel
theorem dX7_init_82 : decode cX7_init 82 = .ok (.bipush 16, 2) := by decide +kernel
theorem dX7_init_84 : decode cX7_init 84 = .ok (.newarray .int, 2) := by decide +kernel
theorem dX7_init_86 : decode cX7_init 86 = .ok (.putfield 39, 3) := by decide +kernel
theorem dX7_init_89 : decode cX7_init 89 = .ok (.aload_n 0, 1) := by decide +kernel
theorem dX7_init_90 : decode cX7_init 90 = .ok (.sipush 210, 3) := by decide +kernel
theorem dX7_init_93 : decode cX7_init 93 = .ok (.newarray .int, 2) := by decide +kernel
theorem dX7_init_95 : decode cX7_init 95 = .ok (.putfield 42, 3) := by decide +kernel
theorem dX7_init_98 : decode cX7_init 98 = .ok (.aload_n 0, 1) := by decide +kernel
theorem dX7_init_99 : decode cX7_init 99 = .ok (.sipush 2200, 3) := by decide +kernel
theorem dX7_init_102 : decode cX7_init 102 = .ok (.newarray .boolean, 2) := by decide +kernel
theorem dX7_init_104 : decode cX7_init 104 = .ok (.putfield 45, 3) := by decide +kernel
theorem dX7_init_107 : decode cX7_init 107 = .ok (.aload_n 0, 1) := by decide +kernel
theorem dX7_init_108 : decode cX7_init 108 = .ok (.bipush 110, 2) := by decide +kernel
theorem dX7_init_110 : decode cX7_init 110 = .ok (.newarray .int, 2) := by decide +kernel
theorem dX7_init_112 : decode cX7_init 112 = .ok (.putfield 48, 3) := by decide +kernel
theorem dX7_init_115 : decode cX7_init 115 = .ok (.aload_n 0, 1) := by decide +kernel
theorem dX7_init_116 : decode cX7_init 116 = .ok (.bipush 17, 2) := by decide +kernel
theorem dX7_init_118 : decode cX7_init 118 = .ok (.newarray .int, 2) := by decide +kernel
theorem dX7_init_120 : decode cX7_init 120 = .ok (.putfield 51, 3) := by decide +kernel
theorem dX7_init_123 : decode cX7_init 123 = .ok (.aload_n 0, 1) := by decide +kernel
theorem dX7_init_124 : decode cX7_init 124 = .ok (.bipush 72, 2) := by decide +kernel
theorem dX7_init_126 : decode cX7_init 126 = .ok (.newarray .int, 2) := by decide +kernel
theorem dX7_init_128 : decode cX7_init 128 = .ok (.putfield 54, 3) := by decide +kernel
theorem dX7_init_131 : decode cX7_init 131 = .ok (.aload_n 0, 1) := by decide +kernel
theorem dX7_init_132 : decode cX7_init 132 = .ok (.bipush 9, 2) := by decide +kernel
theorem dX7_init_134 : decode cX7_init 134 = .ok (.newarray .int, 2) := by decide +kernel
theorem dX7_init_136 : decode cX7_init 136 = .ok (.putfield 57, 3) := by decide +kernel
theorem dX7_init_139 : decode cX7_init 139 = .ok (.return_, 1) := by decide +kernel
theorem dX7_within_0 : decode cX7_within 0 = .ok (.iload_n 0, 1) := by decide +kernel
theorem dX7_within_1 : decode cX7_within 1 = .ok (.iload_n 1, 1) := by decide +kernel
theorem dX7_within_2 : decode cX7_within 2 = .ok (.if_icmp .lt 12, 3) := by decide +kernel
theorem dX7_within_5 : decode cX7_within 5 = .ok (.iload_n 0, 1) := by decide +kernel
theorem dX7_within_6 : decode cX7_within 6 = .ok (.iload_n 2, 1) := by decide +kernel
theorem dX7_within_7 : decode cX7_within 7 = .ok (.if_icmp .gt 7, 3) := by decide +kernel
theorem dX7_within_10 : decode cX7_within 10 = .ok (.iconst 1, 1) := by decide +kernel
theorem dX7_within_11 : decode cX7_within 11 = .ok (.goto 4, 3) := by decide +kernel
theorem dX7_within_14 : decode cX7_within 14 = .ok (.iconst 0, 1) := by decide +kernel
theorem dX7_within_15 : decode cX7_within 15 = .ok (.ireturn, 1) := by decide +kernel
theorem dX7_polynomial_0 : decode cX7_polynomial 0 = .ok (.iload_n 0, 1) := by decide +kernel
theorem dX7_polynomial_1 : decode cX7_polynomial 1 = .ok (.tableswitch 91 3 12 #[55, 58, 61, 64, 67, 71, 75, 79, 83, 87], 55) := by decide +kernel
theorem dX7_polynomial_56 : decode cX7_polynomial 56 = .ok (.bipush 11, 2) := by decide +kernel
theorem dX7_polynomial_58 : decode cX7_polynomial 58 = .ok (.ireturn, 1) := by decide +kernel
theorem dX7_polynomial_59 : decode cX7_polynomial 59 = .ok (.bipush 19, 2) := by decide +kernel
theorem dX7_polynomial_61 : decode cX7_polynomial 61 = .ok (.ireturn, 1) := by decide +kernel
theorem dX7_polynomial_62 : decode cX7_polynomial 62 = .ok (.bipush 37, 2) := by decide +kernel
theorem dX7_polynomial_64 : decode cX7_polynomial 64 = .ok (.ireturn, 1) := by decide +kernel
theorem dX7_polynomial_65 : decode cX7_polynomial 65 = .ok (.bipush 67, 2) := by decide +kernel
theorem dX7_polynomial_67 : decode cX7_polynomial 67 = .ok (.ireturn, 1) := by decide +kernel
theorem dX7_polynomial_68 : decode cX7_polynomial 68 = .ok (.sipush 137, 3) := by decide +kernel
theorem dX7_polynomial_71 : decode cX7_polynomial 71 = .ok (.ireturn, 1) := by decide +kernel
theorem dX7_polynomial_72 : decode cX7_polynomial 72 = .ok (.sipush 285, 3) := by decide +kernel
theorem dX7_polynomial_75 : decode cX7_polynomial 75 = .ok (.ireturn, 1) := by decide +kernel
theorem dX7_polynomial_76 : decode cX7_polynomial 76 = .ok (.sipush 529, 3) := by decide +kernel
theorem dX7_polynomial_79 : decode cX7_polynomial 79 = .ok (.ireturn, 1) := by decide +kernel
theorem dX7_polynomial_80 : decode cX7_polynomial 80 = .ok (.sipush 1033, 3) := by decide +kernel
theorem dX7_polynomial_83 : decode cX7_polynomial 83 = .ok (.ireturn, 1) := by decide +kernel
theorem dX7_polynomial_84 : decode cX7_polynomial 84 = .ok (.sipush 2053, 3) := by decide +kernel
theorem dX7_polynomial_87 : decode cX7_polynomial 87 = .ok (.ireturn, 1) := by decide +kernel
theorem dX7_polynomial_88 : decode cX7_polynomial 88 = .ok (.sipush 4179, 3) := by decide +kernel
theorem dX7_polynomial_91 : decode cX7_polynomial 91 = .ok (.ireturn, 1) := by decide +kernel
theorem dX7_polynomial_92 : decode cX7_polynomial 92 = .ok (.sipush 8219, 3) := by decide +kernel
theorem dX7_polynomial_95 : decode cX7_polynomial 95 = .ok (.ireturn, 1) := by decide +kernel
theorem dX7_product_0 : decode cX7_product 0 = .ok (.iconst 0, 1) := by decide +kernel
theorem dX7_product_1 : decode cX7_product 1 = .ok (.istore_n 3, 1) := by decide +kernel
theorem dX7_product_2 : decode cX7_product 2 = .ok (.iload_n 2, 1) := by decide +kernel
theorem dX7_product_3 : decode cX7_product 3 = .ok (.iconst 1, 1) := by decide +kernel
theorem dX7_product_4 : decode cX7_product 4 = .ok (.isub, 1) := by decide +kernel
theorem dX7_product_5 : decode cX7_product 5 = .ok (.istore 4, 2) := by decide +kernel
theorem dX7_product_7 : decode cX7_product 7 = .ok (.iload 4, 2) := by decide +kernel
theorem dX7_product_9 : decode cX7_product 9 = .ok (.ifCond .lt 51, 3) := by decide +kernel
theorem dX7_product_12 : decode cX7_product 12 = .ok (.iload_n 3, 1) := by decide +kernel
theorem dX7_product_13 : decode cX7_product 13 = .ok (.iconst 1, 1) := by decide +kernel
theorem dX7_product_14 : decode cX7_product 14 = .ok (.ishl, 1) := by decide +kernel
theorem dX7_product_15 : decode cX7_product 15 = .ok (.istore_n 3, 1) := by decide +kernel
theorem dX7_product_16 : decode cX7_product 16 = .ok (.iload_n 3, 1) := by decide +kernel
theorem dX7_product_17 : decode cX7_product 17 = .ok (.iload_n 2, 1) := by decide +kernel
theorem dX7_product_18 : decode cX7_product 18 = .ok (.ishr, 1) := by decide +kernel
theorem dX7_product_19 : decode cX7_product 19 = .ok (.iconst 1, 1) := by decide +kernel
theorem dX7_product_20 : decode cX7_product 20 = .ok (.iand, 1) := by decide +kernel
theorem dX7_product_21 : decode cX7_product 21 = .ok (.iconst 1, 1) := by decide +kernel
theorem dX7_product_22 : decode cX7_product 22 = .ok (.if_icmp .ne 12, 3) := by decide +kernel
theorem dX7_product_25 : decode cX7_product 25 = .ok (.iload_n 3, 1) := by decide +kernel
theorem dX7_product_26 : decode cX7_product 26 = .ok (.iload_n 2, 1) := by decide +kernel
theorem dX7_product_27 : decode cX7_product 27 = .ok (.invokestatic 60, 3) := by decide +kernel
theorem dX7_product_30 : decode cX7_product 30 = .ok (.ixor, 1) := by decide +kernel
theorem dX7_product_31 : decode cX7_product 31 = .ok (.goto 4, 3) := by decide +kernel
theorem dX7_product_34 : decode cX7_product 34 = .ok (.iload_n 3, 1) := by decide +kernel
theorem dX7_product_35 : decode cX7_product 35 = .ok (.istore_n 3, 1) := by decide +kernel
theorem dX7_product_36 : decode cX7_product 36 = .ok (.iload_n 3, 1) := by decide +kernel
theorem dX7_product_37 : decode cX7_product 37 = .ok (.iload_n 1, 1) := by decide +kernel
theorem dX7_product_38 : decode cX7_product 38 = .ok (.iload 4, 2) := by decide +kernel
theorem dX7_product_40 : decode cX7_product 40 = .ok (.ishr, 1) := by decide +kernel
theorem dX7_product_41 : decode cX7_product 41 = .ok (.iconst 1, 1) := by decide +kernel
theorem dX7_product_42 : decode cX7_product 42 = .ok (.iand, 1) := by decide +kernel
theorem dX7_product_43 : decode cX7_product 43 = .ok (.iconst 1, 1) := by decide +kernel
theorem dX7_product_44 : decode cX7_product 44 = .ok (.if_icmp .ne 7, 3) := by decide +kernel
theorem dX7_product_47 : decode cX7_product 47 = .ok (.iload_n 0, 1) := by decide +kernel
theorem dX7_product_48 : decode cX7_product 48 = .ok (.goto 4, 3) := by decide +kernel
theorem dX7_product_51 : decode cX7_product 51 = .ok (.iconst 0, 1) := by decide +kernel
theorem dX7_product_52 : decode cX7_product 52 = .ok (.ixor, 1) := by decide +kernel
theorem dX7_product_53 : decode cX7_product 53 = .ok (.istore_n 3, 1) := by decide +kernel
theorem dX7_product_54 : decode cX7_product 54 = .ok (.iinc 4 (-1), 3) := by decide +kernel
theorem dX7_product_57 : decode cX7_product 57 = .ok (.goto (-50), 3) := by decide +kernel
theorem dX7_product_60 : decode cX7_product 60 = .ok (.iload_n 3, 1) := by decide +kernel
theorem dX7_product_61 : decode cX7_product 61 = .ok (.ireturn, 1) := by decide +kernel
theorem dX7_by_0 : decode cX7_by 0 = .ok (.iload_n 1, 1) := by decide +kernel
theorem dX7_by_1 : decode cX7_by 1 = .ok (.ifCond .eq 7, 3) := by decide +kernel
theorem dX7_by_4 : decode cX7_by 4 = .ok (.iload_n 2, 1) := by decide +kernel
theorem dX7_by_5 : decode cX7_by 5 = .ok (.ifCond .ne 7, 3) := by decide +kernel
theorem dX7_by_8 : decode cX7_by 8 = .ok (.iconst 0, 1) := by decide +kernel
theorem dX7_by_9 : decode cX7_by 9 = .ok (.goto 26, 3) := by decide +kernel
theorem dX7_by_12 : decode cX7_by 12 = .ok (.aload_n 0, 1) := by decide +kernel
theorem dX7_by_13 : decode cX7_by 13 = .ok (.getfield 7, 3) := by decide +kernel
theorem dX7_by_16 : decode cX7_by 16 = .ok (.aload_n 0, 1) := by decide +kernel
theorem dX7_by_17 : decode cX7_by 17 = .ok (.getfield 13, 3) := by decide +kernel
theorem dX7_by_20 : decode cX7_by 20 = .ok (.iload_n 1, 1) := by decide +kernel
theorem dX7_by_21 : decode cX7_by 21 = .ok (.iaload, 1) := by decide +kernel
theorem dX7_by_22 : decode cX7_by 22 = .ok (.aload_n 0, 1) := by decide +kernel
theorem dX7_by_23 : decode cX7_by 23 = .ok (.getfield 13, 3) := by decide +kernel
theorem dX7_by_26 : decode cX7_by 26 = .ok (.iload_n 2, 1) := by decide +kernel
theorem dX7_by_27 : decode cX7_by 27 = .ok (.iaload, 1) := by decide +kernel
theorem dX7_by_28 : decode cX7_by 28 = .ok (.iadd, 1) := by decide +kernel
theorem dX7_by_29 : decode cX7_by 29 = .ok (.aload_n 0, 1) := by decide +kernel
theorem dX7_by_30 : decode cX7_by 30 = .ok (.getfield 64, 3) := by decide +kernel
theorem dX7_by_33 : decode cX7_by 33 = .ok (.irem, 1) := by decide +kernel
theorem dX7_by_34 : decode cX7_by 34 = .ok (.iaload, 1) := by decide +kernel
theorem dX7_by_35 : decode cX7_by 35 = .ok (.ireturn, 1) := by decide +kernel
theorem dX7_exponent_0 : decode cX7_exponent 0 = .ok (.lload_n 1, 1) := by decide +kernel
theorem dX7_exponent_1 : decode cX7_exponent 1 = .ok (.aload_n 0, 1) := by decide +kernel
theorem dX7_exponent_2 : decode cX7_exponent 2 = .ok (.getfield 64, 3) := by decide +kernel
theorem dX7_exponent_5 : decode cX7_exponent 5 = .ok (.i2l, 1) := by decide +kernel
theorem dX7_exponent_6 : decode cX7_exponent 6 = .ok (.lrem, 1) := by decide +kernel
theorem dX7_exponent_7 : decode cX7_exponent 7 = .ok (.aload_n 0, 1) := by decide +kernel
theorem dX7_exponent_8 : decode cX7_exponent 8 = .ok (.getfield 64, 3) := by decide +kernel
theorem dX7_exponent_11 : decode cX7_exponent 11 = .ok (.i2l, 1) := by decide +kernel
theorem dX7_exponent_12 : decode cX7_exponent 12 = .ok (.ladd, 1) := by decide +kernel
theorem dX7_exponent_13 : decode cX7_exponent 13 = .ok (.aload_n 0, 1) := by decide +kernel
theorem dX7_exponent_14 : decode cX7_exponent 14 = .ok (.getfield 64, 3) := by decide +kernel
theorem dX7_exponent_17 : decode cX7_exponent 17 = .ok (.i2l, 1) := by decide +kernel
theorem dX7_exponent_18 : decode cX7_exponent 18 = .ok (.lrem, 1) := by decide +kernel
theorem dX7_exponent_19 : decode cX7_exponent 19 = .ok (.l2i, 1) := by decide +kernel
theorem dX7_exponent_20 : decode cX7_exponent 20 = .ok (.ireturn, 1) := by decide +kernel
theorem dX7_over_0 : decode cX7_over 0 = .ok (.aload_n 0, 1) := by decide +kernel
theorem dX7_over_1 : decode cX7_over 1 = .ok (.getfield 7, 3) := by decide +kernel
theorem dX7_over_4 : decode cX7_over 4 = .ok (.aload_n 0, 1) := by decide +kernel
theorem dX7_over_5 : decode cX7_over 5 = .ok (.getfield 64, 3) := by decide +kernel
theorem dX7_over_8 : decode cX7_over 8 = .ok (.aload_n 0, 1) := by decide +kernel
theorem dX7_over_9 : decode cX7_over 9 = .ok (.getfield 13, 3) := by decide +kernel
theorem dX7_over_12 : decode cX7_over 12 = .ok (.iload_n 1, 1) := by decide +kernel
theorem dX7_over_13 : decode cX7_over 13 = .ok (.iaload, 1) := by decide +kernel
theorem dX7_over_14 : decode cX7_over 14 = .ok (.isub, 1) := by decide +kernel
theorem dX7_over_15 : decode cX7_over 15 = .ok (.aload_n 0, 1) := by decide +kernel
theorem dX7_over_16 : decode cX7_over 16 = .ok (.getfield 64, 3) := by decide +kernel
theorem dX7_over_19 : decode cX7_over 19 = .ok (.irem, 1) := by decide +kernel
theorem dX7_over_20 : decode cX7_over 20 = .ok (.iaload, 1) := by decide +kernel
theorem dX7_over_21 : decode cX7_over 21 = .ok (.ireturn, 1) := by decide +kernel
theorem dX7_isNumber_0 : decode cX7_isNumber 0 = .ok (.iload_n 1, 1) := by decide +kernel
theorem dX7_isNumber_1 : decode cX7_isNumber 1 = .ok (.iconst 0, 1) := by decide +kernel
theorem dX7_isNumber_2 : decode cX7_isNumber 2 = .ok (.aload_n 0, 1) := by decide +kernel
theorem dX7_isNumber_3 : decode cX7_isNumber 3 = .ok (.getfield 64, 3) := by decide +kernel
theorem dX7_isNumber_6 : decode cX7_isNumber 6 = .ok (.invokestatic 68, 3) := by decide +kernel
theorem dX7_isNumber_9 : decode cX7_isNumber 9 = .ok (.ireturn, 1) := by decide +kernel
theorem dX7_minimalOf_0 : decode cX7_minimalOf 0 = .ok (.iconst 0, 1) := by decide +kernel
theorem dX7_minimalOf_1 : decode cX7_minimalOf 1 = .ok (.istore_n 2, 1) := by decide +kernel
theorem dX7_minimalOf_2 : decode cX7_minimalOf 2 = .ok (.aload_n 0, 1) := by decide +kernel
theorem dX7_minimalOf_3 : decode cX7_minimalOf 3 = .ok (.getfield 39, 3) := by decide +kernel
theorem dX7_minimalOf_6 : decode cX7_minimalOf 6 = .ok (.iconst 0, 1) := by decide +kernel
theorem dX7_minimalOf_7 : decode cX7_minimalOf 7 = .ok (.iconst 1, 1) := by decide +kernel
theorem dX7_minimalOf_8 : decode cX7_minimalOf 8 = .ok (.iastore, 1) := by decide +kernel
theorem dX7_minimalOf_9 : decode cX7_minimalOf 9 = .ok (.iload_n 1, 1) := by decide +kernel
theorem dX7_minimalOf_10 : decode cX7_minimalOf 10 = .ok (.istore_n 3, 1) := by decide +kernel
theorem dX7_minimalOf_11 : decode cX7_minimalOf 11 = .ok (.iconst 1, 1) := by decide +kernel
theorem dX7_minimalOf_12 : decode cX7_minimalOf 12 = .ok (.istore 4, 2) := by decide +kernel
theorem dX7_minimalOf_14 : decode cX7_minimalOf 14 = .ok (.iload 4, 2) := by decide +kernel
theorem dX7_minimalOf_16 : decode cX7_minimalOf 16 = .ok (.ifCond .eq 114, 3) := by decide +kernel
theorem dX7_minimalOf_19 : decode cX7_minimalOf 19 = .ok (.aload_n 0, 1) := by decide +kernel
theorem dX7_minimalOf_20 : decode cX7_minimalOf 20 = .ok (.getfield 7, 3) := by decide +kernel
theorem dX7_minimalOf_23 : decode cX7_minimalOf 23 = .ok (.iload_n 3, 1) := by decide +kernel
theorem dX7_minimalOf_24 : decode cX7_minimalOf 24 = .ok (.iaload, 1) := by decide +kernel
theorem dX7_minimalOf_25 : decode cX7_minimalOf 25 = .ok (.istore 5, 2) := by decide +kernel
theorem dX7_minimalOf_27 : decode cX7_minimalOf 27 = .ok (.aload_n 0, 1) := by decide +kernel
theorem dX7_minimalOf_28 : decode cX7_minimalOf 28 = .ok (.getfield 39, 3) := by decide +kernel
theorem dX7_minimalOf_31 : decode cX7_minimalOf 31 = .ok (.iload_n 2, 1) := by decide +kernel
theorem dX7_minimalOf_32 : decode cX7_minimalOf 32 = .ok (.iconst 1, 1) := by decide +kernel
theorem dX7_minimalOf_33 : decode cX7_minimalOf 33 = .ok (.iadd, 1) := by decide +kernel
theorem dX7_minimalOf_34 : decode cX7_minimalOf 34 = .ok (.aload_n 0, 1) := by decide +kernel
theorem dX7_minimalOf_35 : decode cX7_minimalOf 35 = .ok (.getfield 39, 3) := by decide +kernel
theorem dX7_minimalOf_38 : decode cX7_minimalOf 38 = .ok (.iload_n 2, 1) := by decide +kernel
theorem dX7_minimalOf_39 : decode cX7_minimalOf 39 = .ok (.iaload, 1) := by decide +kernel
theorem dX7_minimalOf_40 : decode cX7_minimalOf 40 = .ok (.iastore, 1) := by decide +kernel
theorem dX7_minimalOf_41 : decode cX7_minimalOf 41 = .ok (.iload_n 2, 1) := by decide +kernel
theorem dX7_minimalOf_42 : decode cX7_minimalOf 42 = .ok (.istore 6, 2) := by decide +kernel
theorem dX7_minimalOf_44 : decode cX7_minimalOf 44 = .ok (.iload 6, 2) := by decide +kernel
theorem dX7_minimalOf_46 : decode cX7_minimalOf 46 = .ok (.ifCond .le 39, 3) := by decide +kernel
theorem dX7_minimalOf_49 : decode cX7_minimalOf 49 = .ok (.aload_n 0, 1) := by decide +kernel
theorem dX7_minimalOf_50 : decode cX7_minimalOf 50 = .ok (.getfield 39, 3) := by decide +kernel
theorem dX7_minimalOf_53 : decode cX7_minimalOf 53 = .ok (.iload 6, 2) := by decide +kernel
theorem dX7_minimalOf_55 : decode cX7_minimalOf 55 = .ok (.aload_n 0, 1) := by decide +kernel
theorem dX7_minimalOf_56 : decode cX7_minimalOf 56 = .ok (.getfield 39, 3) := by decide +kernel
theorem dX7_minimalOf_59 : decode cX7_minimalOf 59 = .ok (.iload 6, 2) := by decide +kernel
theorem dX7_minimalOf_61 : decode cX7_minimalOf 61 = .ok (.iconst 1, 1) := by decide +kernel
theorem dX7_minimalOf_62 : decode cX7_minimalOf 62 = .ok (.isub, 1) := by decide +kernel
theorem dX7_minimalOf_63 : decode cX7_minimalOf 63 = .ok (.iaload, 1) := by decide +kernel
theorem dX7_minimalOf_64 : decode cX7_minimalOf 64 = .ok (.aload_n 0, 1) := by decide +kernel
theorem dX7_minimalOf_65 : decode cX7_minimalOf 65 = .ok (.aload_n 0, 1) := by decide +kernel
theorem dX7_minimalOf_66 : decode cX7_minimalOf 66 = .ok (.getfield 39, 3) := by decide +kernel
theorem dX7_minimalOf_69 : decode cX7_minimalOf 69 = .ok (.iload 6, 2) := by decide +kernel
theorem dX7_minimalOf_71 : decode cX7_minimalOf 71 = .ok (.iaload, 1) := by decide +kernel
theorem dX7_minimalOf_72 : decode cX7_minimalOf 72 = .ok (.iload 5, 2) := by decide +kernel
theorem dX7_minimalOf_74 : decode cX7_minimalOf 74 = .ok (.invokevirtual 72, 3) := by decide +kernel
theorem dX7_minimalOf_77 : decode cX7_minimalOf 77 = .ok (.ixor, 1) := by decide +kernel
theorem dX7_minimalOf_78 : decode cX7_minimalOf 78 = .ok (.iastore, 1) := by decide +kernel
theorem dX7_minimalOf_79 : decode cX7_minimalOf 79 = .ok (.iinc 6 (-1), 3) := by decide +kernel
theorem dX7_minimalOf_82 : decode cX7_minimalOf 82 = .ok (.goto (-38), 3) := by decide +kernel
theorem dX7_minimalOf_85 : decode cX7_minimalOf 85 = .ok (.aload_n 0, 1) := by decide +kernel
theorem dX7_minimalOf_86 : decode cX7_minimalOf 86 = .ok (.getfield 39, 3) := by decide +kernel
theorem dX7_minimalOf_89 : decode cX7_minimalOf 89 = .ok (.iconst 0, 1) := by decide +kernel
theorem dX7_minimalOf_90 : decode cX7_minimalOf 90 = .ok (.aload_n 0, 1) := by decide +kernel
theorem dX7_minimalOf_91 : decode cX7_minimalOf 91 = .ok (.aload_n 0, 1) := by decide +kernel
theorem dX7_minimalOf_92 : decode cX7_minimalOf 92 = .ok (.getfield 39, 3) := by decide +kernel
theorem dX7_minimalOf_95 : decode cX7_minimalOf 95 = .ok (.iconst 0, 1) := by decide +kernel
theorem dX7_minimalOf_96 : decode cX7_minimalOf 96 = .ok (.iaload, 1) := by decide +kernel
theorem dX7_minimalOf_97 : decode cX7_minimalOf 97 = .ok (.iload 5, 2) := by decide +kernel
theorem dX7_minimalOf_99 : decode cX7_minimalOf 99 = .ok (.invokevirtual 72, 3) := by decide +kernel
theorem dX7_minimalOf_102 : decode cX7_minimalOf 102 = .ok (.iastore, 1) := by decide +kernel
theorem dX7_minimalOf_103 : decode cX7_minimalOf 103 = .ok (.iinc 2 1, 3) := by decide +kernel
theorem dX7_minimalOf_106 : decode cX7_minimalOf 106 = .ok (.iconst 2, 1) := by decide +kernel
theorem dX7_minimalOf_107 : decode cX7_minimalOf 107 = .ok (.iload_n 3, 1) := by decide +kernel
theorem dX7_minimalOf_108 : decode cX7_minimalOf 108 = .ok (.imul, 1) := by decide +kernel
theorem dX7_minimalOf_109 : decode cX7_minimalOf 109 = .ok (.aload_n 0, 1) := by decide +kernel
theorem dX7_minimalOf_110 : decode cX7_minimalOf 110 = .ok (.getfield 64, 3) := by decide +kernel
theorem dX7_minimalOf_113 : decode cX7_minimalOf 113 = .ok (.irem, 1) := by decide +kernel
theorem dX7_minimalOf_114 : decode cX7_minimalOf 114 = .ok (.istore_n 3, 1) := by decide +kernel
theorem dX7_minimalOf_115 : decode cX7_minimalOf 115 = .ok (.iload_n 3, 1) := by decide +kernel
theorem dX7_minimalOf_116 : decode cX7_minimalOf 116 = .ok (.iload_n 1, 1) := by decide +kernel
theorem dX7_minimalOf_117 : decode cX7_minimalOf 117 = .ok (.if_icmp .eq 7, 3) := by decide +kernel
theorem dX7_minimalOf_120 : decode cX7_minimalOf 120 = .ok (.iconst 1, 1) := by decide +kernel
theorem dX7_minimalOf_121 : decode cX7_minimalOf 121 = .ok (.goto 4, 3) := by decide +kernel
theorem dX7_minimalOf_124 : decode cX7_minimalOf 124 = .ok (.iconst 0, 1) := by decide +kernel
theorem dX7_minimalOf_125 : decode cX7_minimalOf 125 = .ok (.istore 4, 2) := by decide +kernel
theorem dX7_minimalOf_127 : decode cX7_minimalOf 127 = .ok (.goto (-113), 3) := by decide +kernel
theorem dX7_minimalOf_130 : decode cX7_minimalOf 130 = .ok (.iconst 0, 1) := by decide +kernel
theorem dX7_minimalOf_131 : decode cX7_minimalOf 131 = .ok (.istore 5, 2) := by decide +kernel
theorem dX7_minimalOf_133 : decode cX7_minimalOf 133 = .ok (.iconst 0, 1) := by decide +kernel
theorem dX7_minimalOf_134 : decode cX7_minimalOf 134 = .ok (.istore 6, 2) := by decide +kernel
theorem dX7_minimalOf_136 : decode cX7_minimalOf 136 = .ok (.iload 6, 2) := by decide +kernel
theorem dX7_minimalOf_138 : decode cX7_minimalOf 138 = .ok (.iload_n 2, 1) := by decide +kernel
theorem dX7_minimalOf_139 : decode cX7_minimalOf 139 = .ok (.if_icmp .gt 24, 3) := by decide +kernel
theorem dX7_minimalOf_142 : decode cX7_minimalOf 142 = .ok (.iload 5, 2) := by decide +kernel
theorem dX7_minimalOf_144 : decode cX7_minimalOf 144 = .ok (.aload_n 0, 1) := by decide +kernel
theorem dX7_minimalOf_145 : decode cX7_minimalOf 145 = .ok (.getfield 39, 3) := by decide +kernel
theorem dX7_minimalOf_148 : decode cX7_minimalOf 148 = .ok (.iload 6, 2) := by decide +kernel
theorem dX7_minimalOf_150 : decode cX7_minimalOf 150 = .ok (.iaload, 1) := by decide +kernel
theorem dX7_minimalOf_151 : decode cX7_minimalOf 151 = .ok (.iload 6, 2) := by decide +kernel
theorem dX7_minimalOf_153 : decode cX7_minimalOf 153 = .ok (.ishl, 1) := by decide +kernel
theorem dX7_minimalOf_154 : decode cX7_minimalOf 154 = .ok (.ior, 1) := by decide +kernel
theorem dX7_minimalOf_155 : decode cX7_minimalOf 155 = .ok (.istore 5, 2) := by decide +kernel
theorem dX7_minimalOf_157 : decode cX7_minimalOf 157 = .ok (.iinc 6 1, 3) := by decide +kernel
theorem dX7_minimalOf_160 : decode cX7_minimalOf 160 = .ok (.goto (-24), 3) := by decide +kernel
theorem dX7_minimalOf_163 : decode cX7_minimalOf 163 = .ok (.iload 5, 2) := by decide +kernel
theorem dX7_minimalOf_165 : decode cX7_minimalOf 165 = .ok (.ireturn, 1) := by decide +kernel
theorem dX7_generatorAt_0 : decode cX7_generatorAt 0 = .ok (.iconst 0, 1) := by decide +kernel
theorem dX7_generatorAt_1 : decode cX7_generatorAt 1 = .ok (.istore_n 3, 1) := by decide +kernel
theorem dX7_generatorAt_2 : decode cX7_generatorAt 2 = .ok (.iconst 0, 1) := by decide +kernel
theorem dX7_generatorAt_3 : decode cX7_generatorAt 3 = .ok (.istore 4, 2) := by decide +kernel
theorem dX7_generatorAt_5 : decode cX7_generatorAt 5 = .ok (.iload 4, 2) := by decide +kernel
theorem dX7_generatorAt_7 : decode cX7_generatorAt 7 = .ok (.iload_n 1, 1) := by decide +kernel
theorem dX7_generatorAt_8 : decode cX7_generatorAt 8 = .ok (.if_icmp .gt 42, 3) := by decide +kernel
theorem dX7_generatorAt_11 : decode cX7_generatorAt 11 = .ok (.iload_n 3, 1) := by decide +kernel
theorem dX7_generatorAt_12 : decode cX7_generatorAt 12 = .ok (.aload_n 0, 1) := by decide +kernel
theorem dX7_generatorAt_13 : decode cX7_generatorAt 13 = .ok (.getfield 16, 3) := by decide +kernel
theorem dX7_generatorAt_16 : decode cX7_generatorAt 16 = .ok (.iload 4, 2) := by decide +kernel
theorem dX7_generatorAt_18 : decode cX7_generatorAt 18 = .ok (.iaload, 1) := by decide +kernel
theorem dX7_generatorAt_19 : decode cX7_generatorAt 19 = .ok (.iconst 1, 1) := by decide +kernel
theorem dX7_generatorAt_20 : decode cX7_generatorAt 20 = .ok (.if_icmp .ne 21, 3) := by decide +kernel
theorem dX7_generatorAt_23 : decode cX7_generatorAt 23 = .ok (.aload_n 0, 1) := by decide +kernel
theorem dX7_generatorAt_24 : decode cX7_generatorAt 24 = .ok (.getfield 7, 3) := by decide +kernel
theorem dX7_generatorAt_27 : decode cX7_generatorAt 27 = .ok (.aload_n 0, 1) := by decide +kernel
theorem dX7_generatorAt_28 : decode cX7_generatorAt 28 = .ok (.iload 4, 2) := by decide +kernel
theorem dX7_generatorAt_30 : decode cX7_generatorAt 30 = .ok (.i2l, 1) := by decide +kernel
theorem dX7_generatorAt_31 : decode cX7_generatorAt 31 = .ok (.iload_n 2, 1) := by decide +kernel
theorem dX7_generatorAt_32 : decode cX7_generatorAt 32 = .ok (.i2l, 1) := by decide +kernel
theorem dX7_generatorAt_33 : decode cX7_generatorAt 33 = .ok (.lmul, 1) := by decide +kernel
theorem dX7_generatorAt_34 : decode cX7_generatorAt 34 = .ok (.invokevirtual 76, 3) := by decide +kernel
theorem dX7_generatorAt_37 : decode cX7_generatorAt 37 = .ok (.iaload, 1) := by decide +kernel
theorem dX7_generatorAt_38 : decode cX7_generatorAt 38 = .ok (.goto 4, 3) := by decide +kernel
theorem dX7_generatorAt_41 : decode cX7_generatorAt 41 = .ok (.iconst 0, 1) := by decide +kernel
theorem dX7_generatorAt_42 : decode cX7_generatorAt 42 = .ok (.ixor, 1) := by decide +kernel
theorem dX7_generatorAt_43 : decode cX7_generatorAt 43 = .ok (.istore_n 3, 1) := by decide +kernel
theorem dX7_generatorAt_44 : decode cX7_generatorAt 44 = .ok (.iinc 4 1, 3) := by decide +kernel
theorem dX7_generatorAt_47 : decode cX7_generatorAt 47 = .ok (.goto (-42), 3) := by decide +kernel
theorem dX7_generatorAt_50 : decode cX7_generatorAt 50 = .ok (.iload_n 3, 1) := by decide +kernel
theorem dX7_generatorAt_51 : decode cX7_generatorAt 51 = .ok (.ireturn, 1) := by decide +kernel
theorem dX7_makeGenerator_0 : decode cX7_makeGenerator 0 = .ok (.iconst 0, 1) := by decide +kernel
theorem dX7_makeGenerator_1 : decode cX7_makeGenerator 1 = .ok (.istore_n 2, 1) := by decide +kernel
theorem dX7_makeGenerator_2 : decode cX7_makeGenerator 2 = .ok (.iload_n 2, 1) := by decide +kernel
theorem dX7_makeGenerator_3 : decode cX7_makeGenerator 3 = .ok (.sipush 210, 3) := by decide +kernel
theorem dX7_makeGenerator_6 : decode cX7_makeGenerator 6 = .ok (.if_icmp .ge 16, 3) := by decide +kernel
theorem dX7_makeGenerator_9 : decode cX7_makeGenerator 9 = .ok (.aload_n 0, 1) := by decide +kernel
theorem dX7_makeGenerator_10 : decode cX7_makeGenerator 10 = .ok (.getfield 16, 3) := by decide +kernel
theorem dX7_makeGenerator_13 : decode cX7_makeGenerator 13 = .ok (.iload_n 2, 1) := by decide +kernel
theorem dX7_makeGenerator_14 : decode cX7_makeGenerator 14 = .ok (.iconst 0, 1) := by decide +kernel
theorem dX7_makeGenerator_15 : decode cX7_makeGenerator 15 = .ok (.iastore, 1) := by decide +kernel
theorem dX7_makeGenerator_16 : decode cX7_makeGenerator 16 = .ok (.iinc 2 1, 3) := by decide +kernel
theorem dX7_makeGenerator_19 : decode cX7_makeGenerator 19 = .ok (.goto (-17), 3) := by decide +kernel
theorem dX7_makeGenerator_22 : decode cX7_makeGenerator 22 = .ok (.aload_n 0, 1) := by decide +kernel
theorem dX7_makeGenerator_23 : decode cX7_makeGenerator 23 = .ok (.getfield 16, 3) := by decide +kernel
theorem dX7_makeGenerator_26 : decode cX7_makeGenerator 26 = .ok (.iconst 0, 1) := by decide +kernel
theorem dX7_makeGenerator_27 : decode cX7_makeGenerator 27 = .ok (.iconst 1, 1) := by decide +kernel
theorem dX7_makeGenerator_28 : decode cX7_makeGenerator 28 = .ok (.iastore, 1) := by decide +kernel
theorem dX7_makeGenerator_29 : decode cX7_makeGenerator 29 = .ok (.iconst 0, 1) := by decide +kernel
theorem dX7_makeGenerator_30 : decode cX7_makeGenerator 30 = .ok (.istore_n 2, 1) := by decide +kernel
theorem dX7_makeGenerator_31 : decode cX7_makeGenerator 31 = .ok (.iconst 1, 1) := by decide +kernel
theorem dX7_makeGenerator_32 : decode cX7_makeGenerator 32 = .ok (.istore_n 3, 1) := by decide +kernel
theorem dX7_makeGenerator_33 : decode cX7_makeGenerator 33 = .ok (.iload_n 3, 1) := by decide +kernel
theorem dX7_makeGenerator_34 : decode cX7_makeGenerator 34 = .ok (.iload_n 1, 1) := by decide +kernel
theorem dX7_makeGenerator_35 : decode cX7_makeGenerator 35 = .ok (.if_icmp .gt 149, 3) := by decide +kernel
theorem dX7_makeGenerator_38 : decode cX7_makeGenerator 38 = .ok (.aload_n 0, 1) := by decide +kernel
theorem dX7_makeGenerator_39 : decode cX7_makeGenerator 39 = .ok (.iload_n 2, 1) := by decide +kernel
theorem dX7_makeGenerator_40 : decode cX7_makeGenerator 40 = .ok (.iload_n 3, 1) := by decide +kernel
theorem dX7_makeGenerator_41 : decode cX7_makeGenerator 41 = .ok (.aload_n 0, 1) := by decide +kernel
theorem dX7_makeGenerator_42 : decode cX7_makeGenerator 42 = .ok (.getfield 64, 3) := by decide +kernel
theorem dX7_makeGenerator_45 : decode cX7_makeGenerator 45 = .ok (.irem, 1) := by decide +kernel
theorem dX7_makeGenerator_46 : decode cX7_makeGenerator 46 = .ok (.invokevirtual 80, 3) := by decide +kernel
theorem dX7_makeGenerator_49 : decode cX7_makeGenerator 49 = .ok (.ifCond .ne 6, 3) := by decide +kernel
theorem dX7_makeGenerator_52 : decode cX7_makeGenerator 52 = .ok (.goto 126, 3) := by decide +kernel
theorem dX7_makeGenerator_55 : decode cX7_makeGenerator 55 = .ok (.aload_n 0, 1) := by decide +kernel
theorem dX7_makeGenerator_56 : decode cX7_makeGenerator 56 = .ok (.iload_n 3, 1) := by decide +kernel
theorem dX7_makeGenerator_57 : decode cX7_makeGenerator 57 = .ok (.aload_n 0, 1) := by decide +kernel
theorem dX7_makeGenerator_58 : decode cX7_makeGenerator 58 = .ok (.getfield 64, 3) := by decide +kernel
theorem dX7_makeGenerator_61 : decode cX7_makeGenerator 61 = .ok (.irem, 1) := by decide +kernel
theorem dX7_makeGenerator_62 : decode cX7_makeGenerator 62 = .ok (.invokevirtual 83, 3) := by decide +kernel
theorem dX7_makeGenerator_65 : decode cX7_makeGenerator 65 = .ok (.istore 4, 2) := by decide +kernel
theorem dX7_makeGenerator_67 : decode cX7_makeGenerator 67 = .ok (.iconst 0, 1) := by decide +kernel
theorem dX7_makeGenerator_68 : decode cX7_makeGenerator 68 = .ok (.istore 5, 2) := by decide +kernel
theorem dX7_makeGenerator_70 : decode cX7_makeGenerator 70 = .ok (.iload 5, 2) := by decide +kernel
theorem dX7_makeGenerator_72 : decode cX7_makeGenerator 72 = .ok (.iload_n 2, 1) := by decide +kernel
theorem dX7_makeGenerator_73 : decode cX7_makeGenerator 73 = .ok (.if_icmp .gt 31, 3) := by decide +kernel
theorem dX7_makeGenerator_76 : decode cX7_makeGenerator 76 = .ok (.aload_n 0, 1) := by decide +kernel
theorem dX7_makeGenerator_77 : decode cX7_makeGenerator 77 = .ok (.getfield 42, 3) := by decide +kernel
theorem dX7_makeGenerator_80 : decode cX7_makeGenerator 80 = .ok (.iload 5, 2) := by decide +kernel
theorem dX7_makeGenerator_82 : decode cX7_makeGenerator 82 = .ok (.aload_n 0, 1) := by decide +kernel
theorem dX7_makeGenerator_83 : decode cX7_makeGenerator 83 = .ok (.getfield 16, 3) := by decide +kernel
theorem dX7_makeGenerator_86 : decode cX7_makeGenerator 86 = .ok (.iload 5, 2) := by decide +kernel
theorem dX7_makeGenerator_88 : decode cX7_makeGenerator 88 = .ok (.iaload, 1) := by decide +kernel
theorem dX7_makeGenerator_89 : decode cX7_makeGenerator 89 = .ok (.iastore, 1) := by decide +kernel
theorem dX7_makeGenerator_90 : decode cX7_makeGenerator 90 = .ok (.aload_n 0, 1) := by decide +kernel
theorem dX7_makeGenerator_91 : decode cX7_makeGenerator 91 = .ok (.getfield 16, 3) := by decide +kernel
theorem dX7_makeGenerator_94 : decode cX7_makeGenerator 94 = .ok (.iload 5, 2) := by decide +kernel
theorem dX7_makeGenerator_96 : decode cX7_makeGenerator 96 = .ok (.iconst 0, 1) := by decide +kernel
theorem dX7_makeGenerator_97 : decode cX7_makeGenerator 97 = .ok (.iastore, 1) := by decide +kernel
theorem dX7_makeGenerator_98 : decode cX7_makeGenerator 98 = .ok (.iinc 5 1, 3) := by decide +kernel
theorem dX7_makeGenerator_101 : decode cX7_makeGenerator 101 = .ok (.goto (-31), 3) := by decide +kernel
theorem dX7_makeGenerator_104 : decode cX7_makeGenerator 104 = .ok (.iconst 0, 1) := by decide +kernel
theorem dX7_makeGenerator_105 : decode cX7_makeGenerator 105 = .ok (.istore 5, 2) := by decide +kernel
theorem dX7_makeGenerator_107 : decode cX7_makeGenerator 107 = .ok (.iconst 0, 1) := by decide +kernel
theorem dX7_makeGenerator_108 : decode cX7_makeGenerator 108 = .ok (.istore 6, 2) := by decide +kernel
theorem dX7_makeGenerator_110 : decode cX7_makeGenerator 110 = .ok (.iload 6, 2) := by decide +kernel
theorem dX7_makeGenerator_112 : decode cX7_makeGenerator 112 = .ok (.bipush 14, 2) := by decide +kernel
theorem dX7_makeGenerator_114 : decode cX7_makeGenerator 114 = .ok (.if_icmp .ge 59, 3) := by decide +kernel
theorem dX7_makeGenerator_117 : decode cX7_makeGenerator 117 = .ok (.iload 4, 2) := by decide +kernel
theorem dX7_makeGenerator_119 : decode cX7_makeGenerator 119 = .ok (.iload 6, 2) := by decide +kernel
theorem dX7_makeGenerator_121 : decode cX7_makeGenerator 121 = .ok (.ishr, 1) := by decide +kernel
theorem dX7_makeGenerator_122 : decode cX7_makeGenerator 122 = .ok (.iconst 1, 1) := by decide +kernel
theorem dX7_makeGenerator_123 : decode cX7_makeGenerator 123 = .ok (.iand, 1) := by decide +kernel
theorem dX7_makeGenerator_124 : decode cX7_makeGenerator 124 = .ok (.iconst 1, 1) := by decide +kernel
theorem dX7_makeGenerator_125 : decode cX7_makeGenerator 125 = .ok (.if_icmp .ne 42, 3) := by decide +kernel
theorem dX7_makeGenerator_128 : decode cX7_makeGenerator 128 = .ok (.iload 6, 2) := by decide +kernel
theorem dX7_makeGenerator_130 : decode cX7_makeGenerator 130 = .ok (.istore 5, 2) := by decide +kernel
theorem dX7_makeGenerator_132 : decode cX7_makeGenerator 132 = .ok (.iconst 0, 1) := by decide +kernel
theorem dX7_makeGenerator_133 : decode cX7_makeGenerator 133 = .ok (.istore 7, 2) := by decide +kernel
theorem dX7_makeGenerator_135 : decode cX7_makeGenerator 135 = .ok (.iload 7, 2) := by decide +kernel
theorem dX7_makeGenerator_137 : decode cX7_makeGenerator 137 = .ok (.iload_n 2, 1) := by decide +kernel
theorem dX7_makeGenerator_138 : decode cX7_makeGenerator 138 = .ok (.if_icmp .gt 29, 3) := by decide +kernel
theorem dX7_makeGenerator_141 : decode cX7_makeGenerator 141 = .ok (.aload_n 0, 1) := by decide +kernel
theorem dX7_makeGenerator_142 : decode cX7_makeGenerator 142 = .ok (.getfield 16, 3) := by decide +kernel
theorem dX7_makeGenerator_145 : decode cX7_makeGenerator 145 = .ok (.iload 7, 2) := by decide +kernel
theorem dX7_makeGenerator_147 : decode cX7_makeGenerator 147 = .ok (.iload 6, 2) := by decide +kernel
theorem dX7_makeGenerator_149 : decode cX7_makeGenerator 149 = .ok (.iadd, 1) := by decide +kernel
theorem dX7_makeGenerator_150 : decode cX7_makeGenerator 150 = .ok (.dup2, 1) := by decide +kernel
theorem dX7_makeGenerator_151 : decode cX7_makeGenerator 151 = .ok (.iaload, 1) := by decide +kernel
theorem dX7_makeGenerator_152 : decode cX7_makeGenerator 152 = .ok (.aload_n 0, 1) := by decide +kernel
theorem dX7_makeGenerator_153 : decode cX7_makeGenerator 153 = .ok (.getfield 42, 3) := by decide +kernel
theorem dX7_makeGenerator_156 : decode cX7_makeGenerator 156 = .ok (.iload 7, 2) := by decide +kernel
theorem dX7_makeGenerator_158 : decode cX7_makeGenerator 158 = .ok (.iaload, 1) := by decide +kernel
theorem dX7_makeGenerator_159 : decode cX7_makeGenerator 159 = .ok (.ixor, 1) := by decide +kernel
theorem dX7_makeGenerator_160 : decode cX7_makeGenerator 160 = .ok (.iastore, 1) := by decide +kernel
theorem dX7_makeGenerator_161 : decode cX7_makeGenerator 161 = .ok (.iinc 7 1, 3) := by decide +kernel
theorem dX7_makeGenerator_164 : decode cX7_makeGenerator 164 = .ok (.goto (-29), 3) := by decide +kernel
theorem dX7_makeGenerator_167 : decode cX7_makeGenerator 167 = .ok (.iinc 6 1, 3) := by decide +kernel
theorem dX7_makeGenerator_170 : decode cX7_makeGenerator 170 = .ok (.goto (-60), 3) := by decide +kernel
theorem dX7_makeGenerator_173 : decode cX7_makeGenerator 173 = .ok (.iload_n 2, 1) := by decide +kernel
theorem dX7_makeGenerator_174 : decode cX7_makeGenerator 174 = .ok (.iload 5, 2) := by decide +kernel
theorem dX7_makeGenerator_176 : decode cX7_makeGenerator 176 = .ok (.iadd, 1) := by decide +kernel
theorem dX7_makeGenerator_177 : decode cX7_makeGenerator 177 = .ok (.istore_n 2, 1) := by decide +kernel
theorem dX7_makeGenerator_178 : decode cX7_makeGenerator 178 = .ok (.iinc 3 1, 3) := by decide +kernel
theorem dX7_makeGenerator_181 : decode cX7_makeGenerator 181 = .ok (.goto (-148), 3) := by decide +kernel
theorem dX7_makeGenerator_184 : decode cX7_makeGenerator 184 = .ok (.iload_n 2, 1) := by decide +kernel
theorem dX7_makeGenerator_185 : decode cX7_makeGenerator 185 = .ok (.ireturn, 1) := by decide +kernel
theorem dX7_makeField_0 : decode cX7_makeField 0 = .ok (.aload_n 0, 1) := by decide +kernel
theorem dX7_makeField_1 : decode cX7_makeField 1 = .ok (.iload_n 1, 1) := by decide +kernel
theorem dX7_makeField_2 : decode cX7_makeField 2 = .ok (.putfield 86, 3) := by decide +kernel
theorem dX7_makeField_5 : decode cX7_makeField 5 = .ok (.aload_n 0, 1) := by decide +kernel
theorem dX7_makeField_6 : decode cX7_makeField 6 = .ok (.iconst 1, 1) := by decide +kernel
theorem dX7_makeField_7 : decode cX7_makeField 7 = .ok (.iload_n 1, 1) := by decide +kernel
theorem dX7_makeField_8 : decode cX7_makeField 8 = .ok (.ishl, 1) := by decide +kernel
theorem dX7_makeField_9 : decode cX7_makeField 9 = .ok (.iconst 1, 1) := by decide +kernel
theorem dX7_makeField_10 : decode cX7_makeField 10 = .ok (.isub, 1) := by decide +kernel
theorem dX7_makeField_11 : decode cX7_makeField 11 = .ok (.putfield 64, 3) := by decide +kernel
theorem dX7_makeField_14 : decode cX7_makeField 14 = .ok (.iconst 1, 1) := by decide +kernel
theorem dX7_makeField_15 : decode cX7_makeField 15 = .ok (.istore_n 2, 1) := by decide +kernel
theorem dX7_makeField_16 : decode cX7_makeField 16 = .ok (.iconst 0, 1) := by decide +kernel
theorem dX7_makeField_17 : decode cX7_makeField 17 = .ok (.istore_n 3, 1) := by decide +kernel
theorem dX7_makeField_18 : decode cX7_makeField 18 = .ok (.iload_n 3, 1) := by decide +kernel
theorem dX7_makeField_19 : decode cX7_makeField 19 = .ok (.aload_n 0, 1) := by decide +kernel
theorem dX7_makeField_20 : decode cX7_makeField 20 = .ok (.getfield 64, 3) := by decide +kernel
theorem dX7_makeField_23 : decode cX7_makeField 23 = .ok (.if_icmp .ge 30, 3) := by decide +kernel
theorem dX7_makeField_26 : decode cX7_makeField 26 = .ok (.aload_n 0, 1) := by decide +kernel
theorem dX7_makeField_27 : decode cX7_makeField 27 = .ok (.getfield 7, 3) := by decide +kernel
theorem dX7_makeField_30 : decode cX7_makeField 30 = .ok (.iload_n 3, 1) := by decide +kernel
theorem dX7_makeField_31 : decode cX7_makeField 31 = .ok (.iload_n 2, 1) := by decide +kernel
theorem dX7_makeField_32 : decode cX7_makeField 32 = .ok (.iastore, 1) := by decide +kernel
theorem dX7_makeField_33 : decode cX7_makeField 33 = .ok (.aload_n 0, 1) := by decide +kernel
theorem dX7_makeField_34 : decode cX7_makeField 34 = .ok (.getfield 13, 3) := by decide +kernel
theorem dX7_makeField_37 : decode cX7_makeField 37 = .ok (.iload_n 2, 1) := by decide +kernel
theorem dX7_makeField_38 : decode cX7_makeField 38 = .ok (.iload_n 3, 1) := by decide +kernel
theorem dX7_makeField_39 : decode cX7_makeField 39 = .ok (.iastore, 1) := by decide +kernel
theorem dX7_makeField_40 : decode cX7_makeField 40 = .ok (.iload_n 2, 1) := by decide +kernel
theorem dX7_makeField_41 : decode cX7_makeField 41 = .ok (.iconst 2, 1) := by decide +kernel
theorem dX7_makeField_42 : decode cX7_makeField 42 = .ok (.iload_n 1, 1) := by decide +kernel
theorem dX7_makeField_43 : decode cX7_makeField 43 = .ok (.invokestatic 89, 3) := by decide +kernel
theorem dX7_makeField_46 : decode cX7_makeField 46 = .ok (.istore_n 2, 1) := by decide +kernel
theorem dX7_makeField_47 : decode cX7_makeField 47 = .ok (.iinc 3 1, 3) := by decide +kernel
theorem dX7_makeField_50 : decode cX7_makeField 50 = .ok (.goto (-32), 3) := by decide +kernel
theorem dX7_makeField_53 : decode cX7_makeField 53 = .ok (.return_, 1) := by decide +kernel
theorem dX7_open_0 : decode cX7_open 0 = .ok (.iload_n 1, 1) := by decide +kernel
theorem dX7_open_1 : decode cX7_open 1 = .ok (.iconst 3, 1) := by decide +kernel
theorem dX7_open_2 : decode cX7_open 2 = .ok (.bipush 13, 2) := by decide +kernel
theorem dX7_open_4 : decode cX7_open 4 = .ok (.invokestatic 68, 3) := by decide +kernel
theorem dX7_open_7 : decode cX7_open 7 = .ok (.ifCond .eq 24, 3) := by decide +kernel
theorem dX7_open_10 : decode cX7_open 10 = .ok (.iload_n 2, 1) := by decide +kernel
theorem dX7_open_11 : decode cX7_open 11 = .ok (.iconst 1, 1) := by decide +kernel
theorem dX7_open_12 : decode cX7_open 12 = .ok (.bipush 8, 2) := by decide +kernel
theorem dX7_open_14 : decode cX7_open 14 = .ok (.invokestatic 68, 3) := by decide +kernel
theorem dX7_open_17 : decode cX7_open 17 = .ok (.ifCond .eq 14, 3) := by decide +kernel
theorem dX7_open_20 : decode cX7_open 20 = .ok (.iload_n 3, 1) := by decide +kernel
theorem dX7_open_21 : decode cX7_open 21 = .ok (.iconst 1, 1) := by decide +kernel
theorem dX7_open_22 : decode cX7_open 22 = .ok (.sipush 256, 3) := by decide +kernel
theorem dX7_open_25 : decode cX7_open 25 = .ok (.invokestatic 68, 3) := by decide +kernel
theorem dX7_open_28 : decode cX7_open 28 = .ok (.ifCond .ne 6, 3) := by decide +kernel
theorem dX7_open_31 : decode cX7_open 31 = .ok (.bipush (-2), 2) := by decide +kernel
theorem dX7_open_33 : decode cX7_open 33 = .ok (.ireturn, 1) := by decide +kernel
theorem dX7_open_34 : decode cX7_open 34 = .ok (.aload_n 0, 1) := by decide +kernel
theorem dX7_open_35 : decode cX7_open 35 = .ok (.getfield 86, 3) := by decide +kernel
theorem dX7_open_38 : decode cX7_open 38 = .ok (.istore 4, 2) := by decide +kernel
theorem dX7_open_40 : decode cX7_open 40 = .ok (.aload_n 0, 1) := by decide +kernel
theorem dX7_open_41 : decode cX7_open 41 = .ok (.iload_n 1, 1) := by decide +kernel
theorem dX7_open_42 : decode cX7_open 42 = .ok (.invokevirtual 93, 3) := by decide +kernel
theorem dX7_open_45 : decode cX7_open 45 = .ok (.aload_n 0, 1) := by decide +kernel
theorem dX7_open_46 : decode cX7_open 46 = .ok (.iconst 2, 1) := by decide +kernel
theorem dX7_open_47 : decode cX7_open 47 = .ok (.iload_n 2, 1) := by decide +kernel
theorem dX7_open_48 : decode cX7_open 48 = .ok (.imul, 1) := by decide +kernel
theorem dX7_open_49 : decode cX7_open 49 = .ok (.invokevirtual 97, 3) := by decide +kernel
theorem dX7_open_52 : decode cX7_open 52 = .ok (.istore 5, 2) := by decide +kernel
theorem dX7_open_54 : decode cX7_open 54 = .ok (.bipush 8, 2) := by decide +kernel
theorem dX7_open_56 : decode cX7_open 56 = .ok (.iload_n 3, 1) := by decide +kernel
theorem dX7_open_57 : decode cX7_open 57 = .ok (.imul, 1) := by decide +kernel
theorem dX7_open_58 : decode cX7_open 58 = .ok (.iload 5, 2) := by decide +kernel
theorem dX7_open_60 : decode cX7_open 60 = .ok (.iadd, 1) := by decide +kernel
theorem dX7_open_61 : decode cX7_open 61 = .ok (.aload_n 0, 1) := by decide +kernel
theorem dX7_open_62 : decode cX7_open 62 = .ok (.getfield 64, 3) := by decide +kernel
theorem dX7_open_65 : decode cX7_open 65 = .ok (.if_icmp .le 31, 3) := by decide +kernel
theorem dX7_open_68 : decode cX7_open 68 = .ok (.aload_n 0, 1) := by decide +kernel
theorem dX7_open_69 : decode cX7_open 69 = .ok (.getfield 100, 3) := by decide +kernel
theorem dX7_open_72 : decode cX7_open 72 = .ok (.ifCond .eq 21, 3) := by decide +kernel
theorem dX7_open_75 : decode cX7_open 75 = .ok (.aload_n 0, 1) := by decide +kernel
theorem dX7_open_76 : decode cX7_open 76 = .ok (.iload 4, 2) := by decide +kernel
theorem dX7_open_78 : decode cX7_open 78 = .ok (.invokevirtual 93, 3) := by decide +kernel
theorem dX7_open_81 : decode cX7_open 81 = .ok (.aload_n 0, 1) := by decide +kernel
theorem dX7_open_82 : decode cX7_open 82 = .ok (.iconst 2, 1) := by decide +kernel
theorem dX7_open_83 : decode cX7_open 83 = .ok (.aload_n 0, 1) := by decide +kernel
theorem dX7_open_84 : decode cX7_open 84 = .ok (.getfield 104, 3) := by decide +kernel
theorem dX7_open_87 : decode cX7_open 87 = .ok (.imul, 1) := by decide +kernel
theorem dX7_open_88 : decode cX7_open 88 = .ok (.invokevirtual 97, 3) := by decide +kernel
theorem dX7_open_91 : decode cX7_open 91 = .ok (.istore 5, 2) := by decide +kernel
theorem dX7_open_93 : decode cX7_open 93 = .ok (.bipush (-2), 2) := by decide +kernel
theorem dX7_open_95 : decode cX7_open 95 = .ok (.ireturn, 1) := by decide +kernel
theorem dX7_open_96 : decode cX7_open 96 = .ok (.aload_n 0, 1) := by decide +kernel
theorem dX7_open_97 : decode cX7_open 97 = .ok (.iconst 1, 1) := by decide +kernel
theorem dX7_open_98 : decode cX7_open 98 = .ok (.putfield 100, 3) := by decide +kernel
theorem dX7_open_101 : decode cX7_open 101 = .ok (.aload_n 0, 1) := by decide +kernel
theorem dX7_open_102 : decode cX7_open 102 = .ok (.iload_n 2, 1) := by decide +kernel
theorem dX7_open_103 : decode cX7_open 103 = .ok (.putfield 104, 3) := by decide +kernel
theorem dX7_open_106 : decode cX7_open 106 = .ok (.aload_n 0, 1) := by decide +kernel
theorem dX7_open_107 : decode cX7_open 107 = .ok (.iload_n 3, 1) := by decide +kernel
theorem dX7_open_108 : decode cX7_open 108 = .ok (.putfield 107, 3) := by decide +kernel
theorem dX7_open_111 : decode cX7_open 111 = .ok (.aload_n 0, 1) := by decide +kernel
theorem dX7_open_112 : decode cX7_open 112 = .ok (.iload 5, 2) := by decide +kernel
theorem dX7_open_114 : decode cX7_open 114 = .ok (.putfield 110, 3) := by decide +kernel
theorem dX7_open_117 : decode cX7_open 117 = .ok (.aload_n 0, 1) := by decide +kernel
theorem dX7_open_118 : decode cX7_open 118 = .ok (.bipush 8, 2) := by decide +kernel
theorem dX7_open_120 : decode cX7_open 120 = .ok (.iload_n 3, 1) := by decide +kernel
theorem dX7_open_121 : decode cX7_open 121 = .ok (.imul, 1) := by decide +kernel
theorem dX7_open_122 : decode cX7_open 122 = .ok (.iload 5, 2) := by decide +kernel
theorem dX7_open_124 : decode cX7_open 124 = .ok (.iadd, 1) := by decide +kernel
theorem dX7_open_125 : decode cX7_open 125 = .ok (.putfield 113, 3) := by decide +kernel
theorem dX7_open_128 : decode cX7_open 128 = .ok (.iconst 0, 1) := by decide +kernel
theorem dX7_open_129 : decode cX7_open 129 = .ok (.istore 6, 2) := by decide +kernel
theorem dX7_open_131 : decode cX7_open 131 = .ok (.iload 6, 2) := by decide +kernel
theorem dX7_open_133 : decode cX7_open 133 = .ok (.sipush 256, 3) := by decide +kernel
theorem dX7_open_136 : decode cX7_open 136 = .ok (.if_icmp .ge 17, 3) := by decide +kernel
theorem dX7_open_139 : decode cX7_open 139 = .ok (.aload_n 0, 1) := by decide +kernel
theorem dX7_open_140 : decode cX7_open 140 = .ok (.getfield 19, 3) := by decide +kernel
theorem dX7_open_143 : decode cX7_open 143 = .ok (.iload 6, 2) := by decide +kernel
theorem dX7_open_145 : decode cX7_open 145 = .ok (.iconst 0, 1) := by decide +kernel
theorem dX7_open_146 : decode cX7_open 146 = .ok (.iastore, 1) := by decide +kernel
theorem dX7_open_147 : decode cX7_open 147 = .ok (.iinc 6 1, 3) := by decide +kernel
theorem dX7_open_150 : decode cX7_open 150 = .ok (.goto (-19), 3) := by decide +kernel
theorem dX7_open_153 : decode cX7_open 153 = .ok (.iconst 0, 1) := by decide +kernel
theorem dX7_open_154 : decode cX7_open 154 = .ok (.istore 6, 2) := by decide +kernel
theorem dX7_open_156 : decode cX7_open 156 = .ok (.iload 6, 2) := by decide +kernel
theorem dX7_open_158 : decode cX7_open 158 = .ok (.ldc 22, 2) := by decide +kernel
theorem dX7_open_160 : decode cX7_open 160 = .ok (.if_icmp .ge 33, 3) := by decide +kernel
theorem dX7_open_163 : decode cX7_open 163 = .ok (.aload_n 0, 1) := by decide +kernel
theorem dX7_open_164 : decode cX7_open 164 = .ok (.getfield 23, 3) := by decide +kernel
theorem dX7_open_167 : decode cX7_open 167 = .ok (.iload 6, 2) := by decide +kernel
theorem dX7_open_169 : decode cX7_open 169 = .ok (.iconst 1, 1) := by decide +kernel
theorem dX7_open_170 : decode cX7_open 170 = .ok (.bastore, 1) := by decide +kernel
theorem dX7_open_171 : decode cX7_open 171 = .ok (.aload_n 0, 1) := by decide +kernel
theorem dX7_open_172 : decode cX7_open 172 = .ok (.getfield 27, 3) := by decide +kernel
theorem dX7_open_175 : decode cX7_open 175 = .ok (.iload 6, 2) := by decide +kernel
theorem dX7_open_177 : decode cX7_open 177 = .ok (.iconst (-1), 1) := by decide +kernel
theorem dX7_open_178 : decode cX7_open 178 = .ok (.iastore, 1) := by decide +kernel
theorem dX7_open_179 : decode cX7_open 179 = .ok (.aload_n 0, 1) := by decide +kernel
theorem dX7_open_180 : decode cX7_open 180 = .ok (.getfield 30, 3) := by decide +kernel
theorem dX7_open_183 : decode cX7_open 183 = .ok (.iload 6, 2) := by decide +kernel
theorem dX7_open_185 : decode cX7_open 185 = .ok (.iconst 0, 1) := by decide +kernel
theorem dX7_open_186 : decode cX7_open 186 = .ok (.bastore, 1) := by decide +kernel
theorem dX7_open_187 : decode cX7_open 187 = .ok (.iinc 6 1, 3) := by decide +kernel
theorem dX7_open_190 : decode cX7_open 190 = .ok (.goto (-34), 3) := by decide +kernel
theorem dX7_open_193 : decode cX7_open 193 = .ok (.iconst 0, 1) := by decide +kernel
theorem dX7_open_194 : decode cX7_open 194 = .ok (.istore 6, 2) := by decide +kernel
theorem dX7_open_196 : decode cX7_open 196 = .ok (.iload 6, 2) := by decide +kernel
theorem dX7_open_198 : decode cX7_open 198 = .ok (.bipush 16, 2) := by decide +kernel
theorem dX7_open_200 : decode cX7_open 200 = .ok (.if_icmp .ge 17, 3) := by decide +kernel
theorem dX7_open_203 : decode cX7_open 203 = .ok (.aload_n 0, 1) := by decide +kernel
theorem dX7_open_204 : decode cX7_open 204 = .ok (.getfield 33, 3) := by decide +kernel
theorem dX7_open_207 : decode cX7_open 207 = .ok (.iload 6, 2) := by decide +kernel
theorem dX7_open_209 : decode cX7_open 209 = .ok (.iconst 0, 1) := by decide +kernel
theorem dX7_open_210 : decode cX7_open 210 = .ok (.iastore, 1) := by decide +kernel
theorem dX7_open_211 : decode cX7_open 211 = .ok (.iinc 6 1, 3) := by decide +kernel
theorem dX7_open_214 : decode cX7_open 214 = .ok (.goto (-18), 3) := by decide +kernel
theorem dX7_open_217 : decode cX7_open 217 = .ok (.aload_n 0, 1) := by decide +kernel
theorem dX7_open_218 : decode cX7_open 218 = .ok (.iconst 0, 1) := by decide +kernel
theorem dX7_open_219 : decode cX7_open 219 = .ok (.putfield 116, 3) := by decide +kernel
theorem dX7_open_222 : decode cX7_open 222 = .ok (.aload_n 0, 1) := by decide +kernel
theorem dX7_open_223 : decode cX7_open 223 = .ok (.iconst 0, 1) := by decide +kernel
theorem dX7_open_224 : decode cX7_open 224 = .ok (.putfield 119, 3) := by decide +kernel
theorem dX7_open_227 : decode cX7_open 227 = .ok (.aload_n 0, 1) := by decide +kernel
theorem dX7_open_228 : decode cX7_open 228 = .ok (.iconst 0, 1) := by decide +kernel
theorem dX7_open_229 : decode cX7_open 229 = .ok (.putfield 122, 3) := by decide +kernel
theorem dX7_open_232 : decode cX7_open 232 = .ok (.aload_n 0, 1) := by decide +kernel
theorem dX7_open_233 : decode cX7_open 233 = .ok (.iconst 0, 1) := by decide +kernel
theorem dX7_open_234 : decode cX7_open 234 = .ok (.putfield 125, 3) := by decide +kernel
theorem dX7_open_237 : decode cX7_open 237 = .ok (.aload_n 0, 1) := by decide +kernel
theorem dX7_open_238 : decode cX7_open 238 = .ok (.getfield 110, 3) := by decide +kernel
theorem dX7_open_241 : decode cX7_open 241 = .ok (.ireturn, 1) := by decide +kernel
theorem dX7_times_0 : decode cX7_times 0 = .ok (.aload_n 0, 1) := by decide +kernel
theorem dX7_times_1 : decode cX7_times 1 = .ok (.getfield 100, 3) := by decide +kernel
theorem dX7_times_4 : decode cX7_times 4 = .ok (.ifCond .ne 6, 3) := by decide +kernel
theorem dX7_times_7 : decode cX7_times 7 = .ok (.bipush (-3), 2) := by decide +kernel
theorem dX7_times_9 : decode cX7_times 9 = .ok (.ireturn, 1) := by decide +kernel
theorem dX7_times_10 : decode cX7_times 10 = .ok (.aload_n 0, 1) := by decide +kernel
theorem dX7_times_11 : decode cX7_times 11 = .ok (.iload_n 1, 1) := by decide +kernel
theorem dX7_times_12 : decode cX7_times 12 = .ok (.invokevirtual 128, 3) := by decide +kernel
theorem dX7_times_15 : decode cX7_times 15 = .ok (.ifCond .eq 23, 3) := by decide +kernel
theorem dX7_times_18 : decode cX7_times 18 = .ok (.aload_n 0, 1) := by decide +kernel
theorem dX7_times_19 : decode cX7_times 19 = .ok (.iload_n 2, 1) := by decide +kernel
theorem dX7_times_20 : decode cX7_times 20 = .ok (.invokevirtual 128, 3) := by decide +kernel
theorem dX7_times_23 : decode cX7_times 23 = .ok (.ifCond .eq 15, 3) := by decide +kernel
theorem dX7_times_26 : decode cX7_times 26 = .ok (.iload_n 1, 1) := by decide +kernel
theorem dX7_times_27 : decode cX7_times 27 = .ok (.iload_n 2, 1) := by decide +kernel
theorem dX7_times_28 : decode cX7_times 28 = .ok (.aload_n 0, 1) := by decide +kernel
theorem dX7_times_29 : decode cX7_times 29 = .ok (.getfield 86, 3) := by decide +kernel
theorem dX7_times_32 : decode cX7_times 32 = .ok (.invokestatic 89, 3) := by decide +kernel
theorem dX7_times_35 : decode cX7_times 35 = .ok (.goto 5, 3) := by decide +kernel
theorem dX7_times_38 : decode cX7_times 38 = .ok (.bipush (-2), 2) := by decide +kernel
theorem dX7_times_40 : decode cX7_times 40 = .ok (.ireturn, 1) := by decide +kernel
theorem dX7_inverse_0 : decode cX7_inverse 0 = .ok (.aload_n 0, 1) := by decide +kernel
theorem dX7_inverse_1 : decode cX7_inverse 1 = .ok (.getfield 100, 3) := by decide +kernel
theorem dX7_inverse_4 : decode cX7_inverse 4 = .ok (.ifCond .ne 6, 3) := by decide +kernel
theorem dX7_inverse_7 : decode cX7_inverse 7 = .ok (.bipush (-3), 2) := by decide +kernel
theorem dX7_inverse_9 : decode cX7_inverse 9 = .ok (.ireturn, 1) := by decide +kernel
theorem dX7_inverse_10 : decode cX7_inverse 10 = .ok (.aload_n 0, 1) := by decide +kernel
theorem dX7_inverse_11 : decode cX7_inverse 11 = .ok (.iload_n 1, 1) := by decide +kernel
theorem dX7_inverse_12 : decode cX7_inverse 12 = .ok (.invokevirtual 128, 3) := by decide +kernel
theorem dX7_inverse_15 : decode cX7_inverse 15 = .ok (.ifCond .eq 15, 3) := by decide +kernel
theorem dX7_inverse_18 : decode cX7_inverse 18 = .ok (.iload_n 1, 1) := by decide +kernel
theorem dX7_inverse_19 : decode cX7_inverse 19 = .ok (.ifCond .le 11, 3) := by decide +kernel
theorem dX7_inverse_22 : decode cX7_inverse 22 = .ok (.aload_n 0, 1) := by decide +kernel
theorem dX7_inverse_23 : decode cX7_inverse 23 = .ok (.iload_n 1, 1) := by decide +kernel
theorem dX7_inverse_24 : decode cX7_inverse 24 = .ok (.invokevirtual 132, 3) := by decide +kernel
theorem dX7_inverse_27 : decode cX7_inverse 27 = .ok (.goto 5, 3) := by decide +kernel
theorem dX7_inverse_30 : decode cX7_inverse 30 = .ok (.bipush (-2), 2) := by decide +kernel
theorem dX7_inverse_32 : decode cX7_inverse 32 = .ok (.ireturn, 1) := by decide +kernel
theorem dX7_power_0 : decode cX7_power 0 = .ok (.aload_n 0, 1) := by decide +kernel
theorem dX7_power_1 : decode cX7_power 1 = .ok (.getfield 100, 3) := by decide +kernel
theorem dX7_power_4 : decode cX7_power 4 = .ok (.ifCond .ne 6, 3) := by decide +kernel
theorem dX7_power_7 : decode cX7_power 7 = .ok (.bipush (-3), 2) := by decide +kernel
theorem dX7_power_9 : decode cX7_power 9 = .ok (.ireturn, 1) := by decide +kernel
theorem dX7_power_10 : decode cX7_power 10 = .ok (.iload_n 1, 1) := by decide +kernel
theorem dX7_power_11 : decode cX7_power 11 = .ok (.ldc 135, 2) := by decide +kernel
theorem dX7_power_13 : decode cX7_power 13 = .ok (.ldc 136, 2) := by decide +kernel
theorem dX7_power_15 : decode cX7_power 15 = .ok (.invokestatic 68, 3) := by decide +kernel
theorem dX7_power_18 : decode cX7_power 18 = .ok (.ifCond .eq 17, 3) := by decide +kernel
theorem dX7_power_21 : decode cX7_power 21 = .ok (.aload_n 0, 1) := by decide +kernel
theorem dX7_power_22 : decode cX7_power 22 = .ok (.getfield 7, 3) := by decide +kernel
theorem dX7_power_25 : decode cX7_power 25 = .ok (.aload_n 0, 1) := by decide +kernel
theorem dX7_power_26 : decode cX7_power 26 = .ok (.iload_n 1, 1) := by decide +kernel
theorem dX7_power_27 : decode cX7_power 27 = .ok (.i2l, 1) := by decide +kernel
theorem dX7_power_28 : decode cX7_power 28 = .ok (.invokevirtual 76, 3) := by decide +kernel
theorem dX7_power_31 : decode cX7_power 31 = .ok (.iaload, 1) := by decide +kernel
theorem dX7_power_32 : decode cX7_power 32 = .ok (.goto 5, 3) := by decide +kernel
theorem dX7_power_35 : decode cX7_power 35 = .ok (.bipush (-2), 2) := by decide +kernel
theorem dX7_power_37 : decode cX7_power 37 = .ok (.ireturn, 1) := by decide +kernel
theorem dX7_log_0 : decode cX7_log 0 = .ok (.aload_n 0, 1) := by decide +kernel
theorem dX7_log_1 : decode cX7_log 1 = .ok (.getfield 100, 3) := by decide +kernel
theorem dX7_log_4 : decode cX7_log 4 = .ok (.ifCond .ne 6, 3) := by decide +kernel
theorem dX7_log_7 : decode cX7_log 7 = .ok (.bipush (-3), 2) := by decide +kernel
theorem dX7_log_9 : decode cX7_log 9 = .ok (.ireturn, 1) := by decide +kernel
theorem dX7_log_10 : decode cX7_log 10 = .ok (.aload_n 0, 1) := by decide +kernel
theorem dX7_log_11 : decode cX7_log 11 = .ok (.iload_n 1, 1) := by decide +kernel
theorem dX7_log_12 : decode cX7_log 12 = .ok (.invokevirtual 128, 3) := by decide +kernel
theorem dX7_log_15 : decode cX7_log 15 = .ok (.ifCond .eq 16, 3) := by decide +kernel
theorem dX7_log_18 : decode cX7_log 18 = .ok (.iload_n 1, 1) := by decide +kernel
theorem dX7_log_19 : decode cX7_log 19 = .ok (.ifCond .le 12, 3) := by decide +kernel
theorem dX7_log_22 : decode cX7_log 22 = .ok (.aload_n 0, 1) := by decide +kernel
theorem dX7_log_23 : decode cX7_log 23 = .ok (.getfield 13, 3) := by decide +kernel
theorem dX7_log_26 : decode cX7_log 26 = .ok (.iload_n 1, 1) := by decide +kernel
theorem dX7_log_27 : decode cX7_log 27 = .ok (.iaload, 1) := by decide +kernel
theorem dX7_log_28 : decode cX7_log 28 = .ok (.goto 5, 3) := by decide +kernel
theorem dX7_log_31 : decode cX7_log 31 = .ok (.bipush (-2), 2) := by decide +kernel
theorem dX7_log_33 : decode cX7_log 33 = .ok (.ireturn, 1) := by decide +kernel
theorem dX7_minimal_0 : decode cX7_minimal 0 = .ok (.aload_n 0, 1) := by decide +kernel
theorem dX7_minimal_1 : decode cX7_minimal 1 = .ok (.getfield 100, 3) := by decide +kernel
theorem dX7_minimal_4 : decode cX7_minimal 4 = .ok (.ifCond .ne 6, 3) := by decide +kernel
theorem dX7_minimal_7 : decode cX7_minimal 7 = .ok (.bipush (-3), 2) := by decide +kernel
theorem dX7_minimal_9 : decode cX7_minimal 9 = .ok (.ireturn, 1) := by decide +kernel
theorem dX7_minimal_10 : decode cX7_minimal 10 = .ok (.iload_n 1, 1) := by decide +kernel
theorem dX7_minimal_11 : decode cX7_minimal 11 = .ok (.iconst 0, 1) := by decide +kernel
theorem dX7_minimal_12 : decode cX7_minimal 12 = .ok (.aload_n 0, 1) := by decide +kernel
theorem dX7_minimal_13 : decode cX7_minimal 13 = .ok (.getfield 64, 3) := by decide +kernel
theorem dX7_minimal_16 : decode cX7_minimal 16 = .ok (.iconst 1, 1) := by decide +kernel
theorem dX7_minimal_17 : decode cX7_minimal 17 = .ok (.isub, 1) := by decide +kernel
theorem dX7_minimal_18 : decode cX7_minimal 18 = .ok (.invokestatic 68, 3) := by decide +kernel
theorem dX7_minimal_21 : decode cX7_minimal 21 = .ok (.ifCond .eq 11, 3) := by decide +kernel
theorem dX7_minimal_24 : decode cX7_minimal 24 = .ok (.aload_n 0, 1) := by decide +kernel
theorem dX7_minimal_25 : decode cX7_minimal 25 = .ok (.iload_n 1, 1) := by decide +kernel
theorem dX7_minimal_26 : decode cX7_minimal 26 = .ok (.invokevirtual 83, 3) := by decide +kernel
theorem dX7_minimal_29 : decode cX7_minimal 29 = .ok (.goto 5, 3) := by decide +kernel
theorem dX7_minimal_32 : decode cX7_minimal 32 = .ok (.bipush (-2), 2) := by decide +kernel
theorem dX7_minimal_34 : decode cX7_minimal 34 = .ok (.ireturn, 1) := by decide +kernel
theorem dX7_generator_0 : decode cX7_generator 0 = .ok (.aload_n 0, 1) := by decide +kernel
theorem dX7_generator_1 : decode cX7_generator 1 = .ok (.getfield 100, 3) := by decide +kernel
theorem dX7_generator_4 : decode cX7_generator 4 = .ok (.ifCond .ne 6, 3) := by decide +kernel
theorem dX7_generator_7 : decode cX7_generator 7 = .ok (.bipush (-3), 2) := by decide +kernel
theorem dX7_generator_9 : decode cX7_generator 9 = .ok (.ireturn, 1) := by decide +kernel
theorem dX7_generator_10 : decode cX7_generator 10 = .ok (.iload_n 1, 1) := by decide +kernel
theorem dX7_generator_11 : decode cX7_generator 11 = .ok (.ifCond .ge 8, 3) := by decide +kernel
theorem dX7_generator_14 : decode cX7_generator 14 = .ok (.bipush (-2), 2) := by decide +kernel
theorem dX7_generator_16 : decode cX7_generator 16 = .ok (.goto 21, 3) := by decide +kernel
theorem dX7_generator_19 : decode cX7_generator 19 = .ok (.iload_n 1, 1) := by decide +kernel
theorem dX7_generator_20 : decode cX7_generator 20 = .ok (.aload_n 0, 1) := by decide +kernel
theorem dX7_generator_21 : decode cX7_generator 21 = .ok (.getfield 110, 3) := by decide +kernel
theorem dX7_generator_24 : decode cX7_generator 24 = .ok (.if_icmp .gt 12, 3) := by decide +kernel
theorem dX7_generator_27 : decode cX7_generator 27 = .ok (.aload_n 0, 1) := by decide +kernel
theorem dX7_generator_28 : decode cX7_generator 28 = .ok (.getfield 16, 3) := by decide +kernel
theorem dX7_generator_31 : decode cX7_generator 31 = .ok (.iload_n 1, 1) := by decide +kernel
theorem dX7_generator_32 : decode cX7_generator 32 = .ok (.iaload, 1) := by decide +kernel
theorem dX7_generator_33 : decode cX7_generator 33 = .ok (.goto 4, 3) := by decide +kernel
theorem dX7_generator_36 : decode cX7_generator 36 = .ok (.iconst 0, 1) := by decide +kernel
theorem dX7_generator_37 : decode cX7_generator 37 = .ok (.ireturn, 1) := by decide +kernel
theorem dX7_put_0 : decode cX7_put 0 = .ok (.aload_n 0, 1) := by decide +kernel
theorem dX7_put_1 : decode cX7_put 1 = .ok (.getfield 100, 3) := by decide +kernel
theorem dX7_put_4 : decode cX7_put 4 = .ok (.ifCond .ne 6, 3) := by decide +kernel
theorem dX7_put_7 : decode cX7_put 7 = .ok (.bipush (-3), 2) := by decide +kernel
theorem dX7_put_9 : decode cX7_put 9 = .ok (.ireturn, 1) := by decide +kernel
theorem dX7_put_10 : decode cX7_put 10 = .ok (.iload_n 1, 1) := by decide +kernel
theorem dX7_put_11 : decode cX7_put 11 = .ok (.iconst 0, 1) := by decide +kernel
theorem dX7_put_12 : decode cX7_put 12 = .ok (.aload_n 0, 1) := by decide +kernel
theorem dX7_put_13 : decode cX7_put 13 = .ok (.getfield 107, 3) := by decide +kernel
theorem dX7_put_16 : decode cX7_put 16 = .ok (.iconst 1, 1) := by decide +kernel
theorem dX7_put_17 : decode cX7_put 17 = .ok (.isub, 1) := by decide +kernel
theorem dX7_put_18 : decode cX7_put 18 = .ok (.invokestatic 68, 3) := by decide +kernel
theorem dX7_put_21 : decode cX7_put 21 = .ok (.ifCond .ne 6, 3) := by decide +kernel
theorem dX7_put_24 : decode cX7_put 24 = .ok (.bipush (-2), 2) := by decide +kernel
theorem dX7_put_26 : decode cX7_put 26 = .ok (.ireturn, 1) := by decide +kernel
theorem dX7_put_27 : decode cX7_put 27 = .ok (.aload_n 0, 1) := by decide +kernel
theorem dX7_put_28 : decode cX7_put 28 = .ok (.getfield 19, 3) := by decide +kernel
theorem dX7_put_31 : decode cX7_put 31 = .ok (.iload_n 1, 1) := by decide +kernel
theorem dX7_put_32 : decode cX7_put 32 = .ok (.iaload, 1) := by decide +kernel
theorem dX7_put_33 : decode cX7_put 33 = .ok (.istore_n 3, 1) := by decide +kernel
theorem dX7_put_34 : decode cX7_put 34 = .ok (.aload_n 0, 1) := by decide +kernel
theorem dX7_put_35 : decode cX7_put 35 = .ok (.getfield 19, 3) := by decide +kernel
theorem dX7_put_38 : decode cX7_put 38 = .ok (.iload_n 1, 1) := by decide +kernel
theorem dX7_put_39 : decode cX7_put 39 = .ok (.iload_n 2, 1) := by decide +kernel
theorem dX7_put_40 : decode cX7_put 40 = .ok (.sipush 255, 3) := by decide +kernel
theorem dX7_put_43 : decode cX7_put 43 = .ok (.iand, 1) := by decide +kernel
theorem dX7_put_44 : decode cX7_put 44 = .ok (.iastore, 1) := by decide +kernel
theorem dX7_put_45 : decode cX7_put 45 = .ok (.iload_n 3, 1) := by decide +kernel
theorem dX7_put_46 : decode cX7_put 46 = .ok (.ireturn, 1) := by decide +kernel
theorem dX7_fill_0 : decode cX7_fill 0 = .ok (.aload_n 0, 1) := by decide +kernel
theorem dX7_fill_1 : decode cX7_fill 1 = .ok (.getfield 100, 3) := by decide +kernel
theorem dX7_fill_4 : decode cX7_fill 4 = .ok (.ifCond .ne 6, 3) := by decide +kernel
theorem dX7_fill_7 : decode cX7_fill 7 = .ok (.bipush (-3), 2) := by decide +kernel
theorem dX7_fill_9 : decode cX7_fill 9 = .ok (.ireturn, 1) := by decide +kernel
theorem dX7_fill_10 : decode cX7_fill 10 = .ok (.iload_n 1, 1) := by decide +kernel
theorem dX7_fill_11 : decode cX7_fill 11 = .ok (.iconst 0, 1) := by decide +kernel
theorem dX7_fill_12 : decode cX7_fill 12 = .ok (.aload_n 0, 1) := by decide +kernel
theorem dX7_fill_13 : decode cX7_fill 13 = .ok (.getfield 107, 3) := by decide +kernel
theorem dX7_fill_16 : decode cX7_fill 16 = .ok (.iconst 1, 1) := by decide +kernel
theorem dX7_fill_17 : decode cX7_fill 17 = .ok (.isub, 1) := by decide +kernel
theorem dX7_fill_18 : decode cX7_fill 18 = .ok (.invokestatic 68, 3) := by decide +kernel
theorem dX7_fill_21 : decode cX7_fill 21 = .ok (.ifCond .ne 6, 3) := by decide +kernel
theorem dX7_fill_24 : decode cX7_fill 24 = .ok (.bipush (-2), 2) := by decide +kernel
theorem dX7_fill_26 : decode cX7_fill 26 = .ok (.ireturn, 1) := by decide +kernel
theorem dX7_fill_27 : decode cX7_fill 27 = .ok (.aload_n 0, 1) := by decide +kernel
theorem dX7_fill_28 : decode cX7_fill 28 = .ok (.getfield 107, 3) := by decide +kernel
theorem dX7_fill_31 : decode cX7_fill 31 = .ok (.iload_n 1, 1) := by decide +kernel
theorem dX7_fill_32 : decode cX7_fill 32 = .ok (.isub, 1) := by decide +kernel
theorem dX7_fill_33 : decode cX7_fill 33 = .ok (.bipush 8, 2) := by decide +kernel
theorem dX7_fill_35 : decode cX7_fill 35 = .ok (.if_icmp .ge 12, 3) := by decide +kernel
theorem dX7_fill_38 : decode cX7_fill 38 = .ok (.aload_n 0, 1) := by decide +kernel
theorem dX7_fill_39 : decode cX7_fill 39 = .ok (.getfield 107, 3) := by decide +kernel
theorem dX7_fill_42 : decode cX7_fill 42 = .ok (.iload_n 1, 1) := by decide +kernel
theorem dX7_fill_43 : decode cX7_fill 43 = .ok (.isub, 1) := by decide +kernel
theorem dX7_fill_44 : decode cX7_fill 44 = .ok (.goto 5, 3) := by decide +kernel
theorem dX7_fill_47 : decode cX7_fill 47 = .ok (.bipush 8, 2) := by decide +kernel
theorem dX7_fill_49 : decode cX7_fill 49 = .ok (.istore 4, 2) := by decide +kernel
theorem dX7_fill_51 : decode cX7_fill 51 = .ok (.iconst 0, 1) := by decide +kernel
theorem dX7_fill_52 : decode cX7_fill 52 = .ok (.istore 5, 2) := by decide +kernel
theorem dX7_fill_54 : decode cX7_fill 54 = .ok (.iload 5, 2) := by decide +kernel
theorem dX7_fill_56 : decode cX7_fill 56 = .ok (.iload 4, 2) := by decide +kernel
theorem dX7_fill_58 : decode cX7_fill 58 = .ok (.if_icmp .ge 33, 3) := by decide +kernel
theorem dX7_fill_61 : decode cX7_fill 61 = .ok (.aload_n 0, 1) := by decide +kernel
theorem dX7_fill_62 : decode cX7_fill 62 = .ok (.getfield 19, 3) := by decide +kernel
theorem dX7_fill_65 : decode cX7_fill 65 = .ok (.iload_n 1, 1) := by decide +kernel
theorem dX7_fill_66 : decode cX7_fill 66 = .ok (.iload 5, 2) := by decide +kernel
theorem dX7_fill_68 : decode cX7_fill 68 = .ok (.iadd, 1) := by decide +kernel
theorem dX7_fill_69 : decode cX7_fill 69 = .ok (.lload_n 2, 1) := by decide +kernel
theorem dX7_fill_70 : decode cX7_fill 70 = .ok (.bipush 56, 2) := by decide +kernel
theorem dX7_fill_72 : decode cX7_fill 72 = .ok (.bipush 8, 2) := by decide +kernel
theorem dX7_fill_74 : decode cX7_fill 74 = .ok (.iload 5, 2) := by decide +kernel
theorem dX7_fill_76 : decode cX7_fill 76 = .ok (.imul, 1) := by decide +kernel
theorem dX7_fill_77 : decode cX7_fill 77 = .ok (.isub, 1) := by decide +kernel
theorem dX7_fill_78 : decode cX7_fill 78 = .ok (.lshr, 1) := by decide +kernel
theorem dX7_fill_79 : decode cX7_fill 79 = .ok (.ldc2_w 137, 3) := by decide +kernel
theorem dX7_fill_82 : decode cX7_fill 82 = .ok (.land, 1) := by decide +kernel
theorem dX7_fill_83 : decode cX7_fill 83 = .ok (.l2i, 1) := by decide +kernel
theorem dX7_fill_84 : decode cX7_fill 84 = .ok (.iastore, 1) := by decide +kernel
theorem dX7_fill_85 : decode cX7_fill 85 = .ok (.iinc 5 1, 3) := by decide +kernel
theorem dX7_fill_88 : decode cX7_fill 88 = .ok (.goto (-34), 3) := by decide +kernel
theorem dX7_fill_91 : decode cX7_fill 91 = .ok (.iload 4, 2) := by decide +kernel
theorem dX7_fill_93 : decode cX7_fill 93 = .ok (.ireturn, 1) := by decide +kernel
theorem dX7_get_0 : decode cX7_get 0 = .ok (.aload_n 0, 1) := by decide +kernel
theorem dX7_get_1 : decode cX7_get 1 = .ok (.getfield 100, 3) := by decide +kernel
theorem dX7_get_4 : decode cX7_get 4 = .ok (.ifCond .ne 6, 3) := by decide +kernel
theorem dX7_get_7 : decode cX7_get 7 = .ok (.bipush (-3), 2) := by decide +kernel
theorem dX7_get_9 : decode cX7_get 9 = .ok (.ireturn, 1) := by decide +kernel
theorem dX7_get_10 : decode cX7_get 10 = .ok (.iload_n 1, 1) := by decide +kernel
theorem dX7_get_11 : decode cX7_get 11 = .ok (.iconst 0, 1) := by decide +kernel
theorem dX7_get_12 : decode cX7_get 12 = .ok (.aload_n 0, 1) := by decide +kernel
theorem dX7_get_13 : decode cX7_get 13 = .ok (.getfield 107, 3) := by decide +kernel
theorem dX7_get_16 : decode cX7_get 16 = .ok (.iconst 1, 1) := by decide +kernel
theorem dX7_get_17 : decode cX7_get 17 = .ok (.isub, 1) := by decide +kernel
theorem dX7_get_18 : decode cX7_get 18 = .ok (.invokestatic 68, 3) := by decide +kernel
theorem dX7_get_21 : decode cX7_get 21 = .ok (.ifCond .eq 12, 3) := by decide +kernel
theorem dX7_get_24 : decode cX7_get 24 = .ok (.aload_n 0, 1) := by decide +kernel
theorem dX7_get_25 : decode cX7_get 25 = .ok (.getfield 19, 3) := by decide +kernel
theorem dX7_get_28 : decode cX7_get 28 = .ok (.iload_n 1, 1) := by decide +kernel
theorem dX7_get_29 : decode cX7_get 29 = .ok (.iaload, 1) := by decide +kernel
theorem dX7_get_30 : decode cX7_get 30 = .ok (.goto 5, 3) := by decide +kernel
theorem dX7_get_33 : decode cX7_get 33 = .ok (.bipush (-2), 2) := by decide +kernel
theorem dX7_get_35 : decode cX7_get 35 = .ok (.ireturn, 1) := by decide +kernel
theorem dX7_complete_0 : decode cX7_complete 0 = .ok (.iconst 0, 1) := by decide +kernel
theorem dX7_complete_1 : decode cX7_complete 1 = .ok (.istore_n 1, 1) := by decide +kernel
theorem dX7_complete_2 : decode cX7_complete 2 = .ok (.iload_n 1, 1) := by decide +kernel
theorem dX7_complete_3 : decode cX7_complete 3 = .ok (.bipush 110, 2) := by decide +kernel
theorem dX7_complete_5 : decode cX7_complete 5 = .ok (.if_icmp .ge 16, 3) := by decide +kernel
theorem dX7_complete_8 : decode cX7_complete 8 = .ok (.aload_n 0, 1) := by decide +kernel
theorem dX7_complete_9 : decode cX7_complete 9 = .ok (.getfield 48, 3) := by decide +kernel
theorem dX7_complete_12 : decode cX7_complete 12 = .ok (.iload_n 1, 1) := by decide +kernel
theorem dX7_complete_13 : decode cX7_complete 13 = .ok (.iconst 0, 1) := by decide +kernel
theorem dX7_complete_14 : decode cX7_complete 14 = .ok (.iastore, 1) := by decide +kernel
theorem dX7_complete_15 : decode cX7_complete 15 = .ok (.iinc 1 1, 3) := by decide +kernel
theorem dX7_complete_18 : decode cX7_complete 18 = .ok (.goto (-16), 3) := by decide +kernel
theorem dX7_complete_21 : decode cX7_complete 21 = .ok (.iconst 0, 1) := by decide +kernel
theorem dX7_complete_22 : decode cX7_complete 22 = .ok (.istore_n 1, 1) := by decide +kernel
theorem dX7_complete_23 : decode cX7_complete 23 = .ok (.iload_n 1, 1) := by decide +kernel
theorem dX7_complete_24 : decode cX7_complete 24 = .ok (.bipush 8, 2) := by decide +kernel
theorem dX7_complete_26 : decode cX7_complete 26 = .ok (.aload_n 0, 1) := by decide +kernel
theorem dX7_complete_27 : decode cX7_complete 27 = .ok (.getfield 107, 3) := by decide +kernel
theorem dX7_complete_30 : decode cX7_complete 30 = .ok (.imul, 1) := by decide +kernel
theorem dX7_complete_31 : decode cX7_complete 31 = .ok (.if_icmp .ge 138, 3) := by decide +kernel
theorem dX7_complete_34 : decode cX7_complete 34 = .ok (.aload_n 0, 1) := by decide +kernel
theorem dX7_complete_35 : decode cX7_complete 35 = .ok (.getfield 45, 3) := by decide +kernel
theorem dX7_complete_38 : decode cX7_complete 38 = .ok (.iload_n 1, 1) := by decide +kernel
theorem dX7_complete_39 : decode cX7_complete 39 = .ok (.aload_n 0, 1) := by decide +kernel
theorem dX7_complete_40 : decode cX7_complete 40 = .ok (.getfield 19, 3) := by decide +kernel
theorem dX7_complete_43 : decode cX7_complete 43 = .ok (.iload_n 1, 1) := by decide +kernel
theorem dX7_complete_44 : decode cX7_complete 44 = .ok (.bipush 8, 2) := by decide +kernel
theorem dX7_complete_46 : decode cX7_complete 46 = .ok (.idiv, 1) := by decide +kernel
theorem dX7_complete_47 : decode cX7_complete 47 = .ok (.iaload, 1) := by decide +kernel
theorem dX7_complete_48 : decode cX7_complete 48 = .ok (.bipush 7, 2) := by decide +kernel
theorem dX7_complete_50 : decode cX7_complete 50 = .ok (.iload_n 1, 1) := by decide +kernel
theorem dX7_complete_51 : decode cX7_complete 51 = .ok (.bipush 8, 2) := by decide +kernel
theorem dX7_complete_53 : decode cX7_complete 53 = .ok (.irem, 1) := by decide +kernel
theorem dX7_complete_54 : decode cX7_complete 54 = .ok (.isub, 1) := by decide +kernel
theorem dX7_complete_55 : decode cX7_complete 55 = .ok (.ishr, 1) := by decide +kernel
theorem dX7_complete_56 : decode cX7_complete 56 = .ok (.iconst 1, 1) := by decide +kernel
theorem dX7_complete_57 : decode cX7_complete 57 = .ok (.iand, 1) := by decide +kernel
theorem dX7_complete_58 : decode cX7_complete 58 = .ok (.iconst 1, 1) := by decide +kernel
theorem dX7_complete_59 : decode cX7_complete 59 = .ok (.if_icmp .ne 7, 3) := by decide +kernel
theorem dX7_complete_62 : decode cX7_complete 62 = .ok (.iconst 1, 1) := by decide +kernel
theorem dX7_complete_63 : decode cX7_complete 63 = .ok (.goto 4, 3) := by decide +kernel
theorem dX7_complete_66 : decode cX7_complete 66 = .ok (.iconst 0, 1) := by decide +kernel
theorem dX7_complete_67 : decode cX7_complete 67 = .ok (.bastore, 1) := by decide +kernel
theorem dX7_complete_68 : decode cX7_complete 68 = .ok (.aload_n 0, 1) := by decide +kernel
theorem dX7_complete_69 : decode cX7_complete 69 = .ok (.getfield 48, 3) := by decide +kernel
theorem dX7_complete_72 : decode cX7_complete 72 = .ok (.aload_n 0, 1) := by decide +kernel
theorem dX7_complete_73 : decode cX7_complete 73 = .ok (.getfield 110, 3) := by decide +kernel
theorem dX7_complete_76 : decode cX7_complete 76 = .ok (.iconst 1, 1) := by decide +kernel
theorem dX7_complete_77 : decode cX7_complete 77 = .ok (.isub, 1) := by decide +kernel
theorem dX7_complete_78 : decode cX7_complete 78 = .ok (.iaload, 1) := by decide +kernel
theorem dX7_complete_79 : decode cX7_complete 79 = .ok (.aload_n 0, 1) := by decide +kernel
theorem dX7_complete_80 : decode cX7_complete 80 = .ok (.getfield 45, 3) := by decide +kernel
theorem dX7_complete_83 : decode cX7_complete 83 = .ok (.iload_n 1, 1) := by decide +kernel
theorem dX7_complete_84 : decode cX7_complete 84 = .ok (.baload, 1) := by decide +kernel
theorem dX7_complete_85 : decode cX7_complete 85 = .ok (.ifCond .eq 7, 3) := by decide +kernel
theorem dX7_complete_88 : decode cX7_complete 88 = .ok (.iconst 0, 1) := by decide +kernel
theorem dX7_complete_89 : decode cX7_complete 89 = .ok (.goto 4, 3) := by decide +kernel
theorem dX7_complete_92 : decode cX7_complete 92 = .ok (.iconst 1, 1) := by decide +kernel
theorem dX7_complete_93 : decode cX7_complete 93 = .ok (.ixor, 1) := by decide +kernel
theorem dX7_complete_94 : decode cX7_complete 94 = .ok (.istore_n 2, 1) := by decide +kernel
theorem dX7_complete_95 : decode cX7_complete 95 = .ok (.aload_n 0, 1) := by decide +kernel
theorem dX7_complete_96 : decode cX7_complete 96 = .ok (.getfield 110, 3) := by decide +kernel
theorem dX7_complete_99 : decode cX7_complete 99 = .ok (.iconst 1, 1) := by decide +kernel
theorem dX7_complete_100 : decode cX7_complete 100 = .ok (.isub, 1) := by decide +kernel
theorem dX7_complete_101 : decode cX7_complete 101 = .ok (.istore_n 3, 1) := by decide +kernel
theorem dX7_complete_102 : decode cX7_complete 102 = .ok (.iload_n 3, 1) := by decide +kernel
theorem dX7_complete_103 : decode cX7_complete 103 = .ok (.ifCond .le 39, 3) := by decide +kernel
theorem dX7_complete_106 : decode cX7_complete 106 = .ok (.aload_n 0, 1) := by decide +kernel
theorem dX7_complete_107 : decode cX7_complete 107 = .ok (.getfield 48, 3) := by decide +kernel
theorem dX7_complete_110 : decode cX7_complete 110 = .ok (.iload_n 3, 1) := by decide +kernel
theorem dX7_complete_111 : decode cX7_complete 111 = .ok (.aload_n 0, 1) := by decide +kernel
theorem dX7_complete_112 : decode cX7_complete 112 = .ok (.getfield 48, 3) := by decide +kernel
theorem dX7_complete_115 : decode cX7_complete 115 = .ok (.iload_n 3, 1) := by decide +kernel
theorem dX7_complete_116 : decode cX7_complete 116 = .ok (.iconst 1, 1) := by decide +kernel
theorem dX7_complete_117 : decode cX7_complete 117 = .ok (.isub, 1) := by decide +kernel
theorem dX7_complete_118 : decode cX7_complete 118 = .ok (.iaload, 1) := by decide +kernel
theorem dX7_complete_119 : decode cX7_complete 119 = .ok (.iload_n 2, 1) := by decide +kernel
theorem dX7_complete_120 : decode cX7_complete 120 = .ok (.iconst 1, 1) := by decide +kernel
theorem dX7_complete_121 : decode cX7_complete 121 = .ok (.if_icmp .ne 12, 3) := by decide +kernel
theorem dX7_complete_124 : decode cX7_complete 124 = .ok (.aload_n 0, 1) := by decide +kernel
theorem dX7_complete_125 : decode cX7_complete 125 = .ok (.getfield 16, 3) := by decide +kernel
theorem dX7_complete_128 : decode cX7_complete 128 = .ok (.iload_n 3, 1) := by decide +kernel
theorem dX7_complete_129 : decode cX7_complete 129 = .ok (.iaload, 1) := by decide +kernel
theorem dX7_complete_130 : decode cX7_complete 130 = .ok (.goto 4, 3) := by decide +kernel
theorem dX7_complete_133 : decode cX7_complete 133 = .ok (.iconst 0, 1) := by decide +kernel
theorem dX7_complete_134 : decode cX7_complete 134 = .ok (.ixor, 1) := by decide +kernel
theorem dX7_complete_135 : decode cX7_complete 135 = .ok (.iastore, 1) := by decide +kernel
theorem dX7_complete_136 : decode cX7_complete 136 = .ok (.iinc 3 (-1), 3) := by decide +kernel
theorem dX7_complete_139 : decode cX7_complete 139 = .ok (.goto (-37), 3) := by decide +kernel
theorem dX7_complete_142 : decode cX7_complete 142 = .ok (.aload_n 0, 1) := by decide +kernel
theorem dX7_complete_143 : decode cX7_complete 143 = .ok (.getfield 48, 3) := by decide +kernel
theorem dX7_complete_146 : decode cX7_complete 146 = .ok (.iconst 0, 1) := by decide +kernel
theorem dX7_complete_147 : decode cX7_complete 147 = .ok (.iload_n 2, 1) := by decide +kernel
theorem dX7_complete_148 : decode cX7_complete 148 = .ok (.iconst 1, 1) := by decide +kernel
theorem dX7_complete_149 : decode cX7_complete 149 = .ok (.if_icmp .ne 12, 3) := by decide +kernel
theorem dX7_complete_152 : decode cX7_complete 152 = .ok (.aload_n 0, 1) := by decide +kernel
theorem dX7_complete_153 : decode cX7_complete 153 = .ok (.getfield 16, 3) := by decide +kernel
theorem dX7_complete_156 : decode cX7_complete 156 = .ok (.iconst 0, 1) := by decide +kernel
theorem dX7_complete_157 : decode cX7_complete 157 = .ok (.iaload, 1) := by decide +kernel
theorem dX7_complete_158 : decode cX7_complete 158 = .ok (.goto 4, 3) := by decide +kernel
theorem dX7_complete_161 : decode cX7_complete 161 = .ok (.iconst 0, 1) := by decide +kernel
theorem dX7_complete_162 : decode cX7_complete 162 = .ok (.iastore, 1) := by decide +kernel
theorem dX7_complete_163 : decode cX7_complete 163 = .ok (.iinc 1 1, 3) := by decide +kernel
theorem dX7_complete_166 : decode cX7_complete 166 = .ok (.goto (-143), 3) := by decide +kernel
theorem dX7_complete_169 : decode cX7_complete 169 = .ok (.iconst 0, 1) := by decide +kernel
theorem dX7_complete_170 : decode cX7_complete 170 = .ok (.istore_n 1, 1) := by decide +kernel
theorem dX7_complete_171 : decode cX7_complete 171 = .ok (.iload_n 1, 1) := by decide +kernel
theorem dX7_complete_172 : decode cX7_complete 172 = .ok (.aload_n 0, 1) := by decide +kernel
theorem dX7_complete_173 : decode cX7_complete 173 = .ok (.getfield 110, 3) := by decide +kernel
theorem dX7_complete_176 : decode cX7_complete 176 = .ok (.if_icmp .ge 44, 3) := by decide +kernel
theorem dX7_complete_179 : decode cX7_complete 179 = .ok (.aload_n 0, 1) := by decide +kernel
theorem dX7_complete_180 : decode cX7_complete 180 = .ok (.getfield 45, 3) := by decide +kernel
theorem dX7_complete_183 : decode cX7_complete 183 = .ok (.bipush 8, 2) := by decide +kernel
theorem dX7_complete_185 : decode cX7_complete 185 = .ok (.aload_n 0, 1) := by decide +kernel
theorem dX7_complete_186 : decode cX7_complete 186 = .ok (.getfield 107, 3) := by decide +kernel
theorem dX7_complete_189 : decode cX7_complete 189 = .ok (.imul, 1) := by decide +kernel
theorem dX7_complete_190 : decode cX7_complete 190 = .ok (.iload_n 1, 1) := by decide +kernel
theorem dX7_complete_191 : decode cX7_complete 191 = .ok (.iadd, 1) := by decide +kernel
theorem dX7_complete_192 : decode cX7_complete 192 = .ok (.aload_n 0, 1) := by decide +kernel
theorem dX7_complete_193 : decode cX7_complete 193 = .ok (.getfield 48, 3) := by decide +kernel
theorem dX7_complete_196 : decode cX7_complete 196 = .ok (.aload_n 0, 1) := by decide +kernel
theorem dX7_complete_197 : decode cX7_complete 197 = .ok (.getfield 110, 3) := by decide +kernel
theorem dX7_complete_200 : decode cX7_complete 200 = .ok (.iconst 1, 1) := by decide +kernel
theorem dX7_complete_201 : decode cX7_complete 201 = .ok (.isub, 1) := by decide +kernel
theorem dX7_complete_202 : decode cX7_complete 202 = .ok (.iload_n 1, 1) := by decide +kernel
theorem dX7_complete_203 : decode cX7_complete 203 = .ok (.isub, 1) := by decide +kernel
theorem dX7_complete_204 : decode cX7_complete 204 = .ok (.iaload, 1) := by decide +kernel
theorem dX7_complete_205 : decode cX7_complete 205 = .ok (.ifCond .ne 7, 3) := by decide +kernel
theorem dX7_complete_208 : decode cX7_complete 208 = .ok (.iconst 1, 1) := by decide +kernel
theorem dX7_complete_209 : decode cX7_complete 209 = .ok (.goto 4, 3) := by decide +kernel
theorem dX7_complete_212 : decode cX7_complete 212 = .ok (.iconst 0, 1) := by decide +kernel
theorem dX7_complete_213 : decode cX7_complete 213 = .ok (.bastore, 1) := by decide +kernel
theorem dX7_complete_214 : decode cX7_complete 214 = .ok (.iinc 1 1, 3) := by decide +kernel
theorem dX7_complete_217 : decode cX7_complete 217 = .ok (.goto (-46), 3) := by decide +kernel
theorem dX7_complete_220 : decode cX7_complete 220 = .ok (.return_, 1) := by decide +kernel
theorem dX7_tail_0 : decode cX7_tail 0 = .ok (.aload_n 0, 1) := by decide +kernel
theorem dX7_tail_1 : decode cX7_tail 1 = .ok (.getfield 100, 3) := by decide +kernel
theorem dX7_tail_4 : decode cX7_tail 4 = .ok (.ifCond .ne 6, 3) := by decide +kernel
theorem dX7_tail_7 : decode cX7_tail 7 = .ok (.bipush (-3), 2) := by decide +kernel
theorem dX7_tail_9 : decode cX7_tail 9 = .ok (.ireturn, 1) := by decide +kernel
theorem dX7_tail_10 : decode cX7_tail 10 = .ok (.iload_n 1, 1) := by decide +kernel
theorem dX7_tail_11 : decode cX7_tail 11 = .ok (.iconst 0, 1) := by decide +kernel
theorem dX7_tail_12 : decode cX7_tail 12 = .ok (.aload_n 0, 1) := by decide +kernel
theorem dX7_tail_13 : decode cX7_tail 13 = .ok (.getfield 110, 3) := by decide +kernel
theorem dX7_tail_16 : decode cX7_tail 16 = .ok (.iconst 1, 1) := by decide +kernel
theorem dX7_tail_17 : decode cX7_tail 17 = .ok (.isub, 1) := by decide +kernel
theorem dX7_tail_18 : decode cX7_tail 18 = .ok (.invokestatic 68, 3) := by decide +kernel
theorem dX7_tail_21 : decode cX7_tail 21 = .ok (.ifCond .ne 6, 3) := by decide +kernel
theorem dX7_tail_24 : decode cX7_tail 24 = .ok (.bipush (-2), 2) := by decide +kernel
theorem dX7_tail_26 : decode cX7_tail 26 = .ok (.ireturn, 1) := by decide +kernel
theorem dX7_tail_27 : decode cX7_tail 27 = .ok (.aload_n 0, 1) := by decide +kernel
theorem dX7_tail_28 : decode cX7_tail 28 = .ok (.invokevirtual 139, 3) := by decide +kernel
theorem dX7_tail_31 : decode cX7_tail 31 = .ok (.aload_n 0, 1) := by decide +kernel
theorem dX7_tail_32 : decode cX7_tail 32 = .ok (.getfield 45, 3) := by decide +kernel
theorem dX7_tail_35 : decode cX7_tail 35 = .ok (.bipush 8, 2) := by decide +kernel
theorem dX7_tail_37 : decode cX7_tail 37 = .ok (.aload_n 0, 1) := by decide +kernel
theorem dX7_tail_38 : decode cX7_tail 38 = .ok (.getfield 107, 3) := by decide +kernel
theorem dX7_tail_41 : decode cX7_tail 41 = .ok (.imul, 1) := by decide +kernel
theorem dX7_tail_42 : decode cX7_tail 42 = .ok (.iload_n 1, 1) := by decide +kernel
theorem dX7_tail_43 : decode cX7_tail 43 = .ok (.iadd, 1) := by decide +kernel
theorem dX7_tail_44 : decode cX7_tail 44 = .ok (.baload, 1) := by decide +kernel
theorem dX7_tail_45 : decode cX7_tail 45 = .ok (.ifCond .eq 7, 3) := by decide +kernel
theorem dX7_tail_48 : decode cX7_tail 48 = .ok (.iconst 1, 1) := by decide +kernel
theorem dX7_tail_49 : decode cX7_tail 49 = .ok (.goto 4, 3) := by decide +kernel
theorem dX7_tail_52 : decode cX7_tail 52 = .ok (.iconst 0, 1) := by decide +kernel
theorem dX7_tail_53 : decode cX7_tail 53 = .ok (.ireturn, 1) := by decide +kernel
theorem dX7_isPage_0 : decode cX7_isPage 0 = .ok (.iload_n 0, 1) := by decide +kernel
theorem dX7_isPage_1 : decode cX7_isPage 1 = .ok (.iconst 0, 1) := by decide +kernel
theorem dX7_isPage_2 : decode cX7_isPage 2 = .ok (.bipush 15, 2) := by decide +kernel
theorem dX7_isPage_4 : decode cX7_isPage 4 = .ok (.invokestatic 68, 3) := by decide +kernel
theorem dX7_isPage_7 : decode cX7_isPage 7 = .ok (.ireturn, 1) := by decide +kernel
theorem dX7_isBit_0 : decode cX7_isBit 0 = .ok (.iload_n 1, 1) := by decide +kernel
theorem dX7_isBit_1 : decode cX7_isBit 1 = .ok (.invokestatic 142, 3) := by decide +kernel
theorem dX7_isBit_4 : decode cX7_isBit 4 = .ok (.ifCond .eq 21, 3) := by decide +kernel
theorem dX7_isBit_7 : decode cX7_isBit 7 = .ok (.iload_n 2, 1) := by decide +kernel
theorem dX7_isBit_8 : decode cX7_isBit 8 = .ok (.iconst 0, 1) := by decide +kernel
theorem dX7_isBit_9 : decode cX7_isBit 9 = .ok (.aload_n 0, 1) := by decide +kernel
theorem dX7_isBit_10 : decode cX7_isBit 10 = .ok (.getfield 113, 3) := by decide +kernel
theorem dX7_isBit_13 : decode cX7_isBit 13 = .ok (.iconst 1, 1) := by decide +kernel
theorem dX7_isBit_14 : decode cX7_isBit 14 = .ok (.isub, 1) := by decide +kernel
theorem dX7_isBit_15 : decode cX7_isBit 15 = .ok (.invokestatic 68, 3) := by decide +kernel
theorem dX7_isBit_18 : decode cX7_isBit 18 = .ok (.ifCond .eq 7, 3) := by decide +kernel
theorem dX7_isBit_21 : decode cX7_isBit 21 = .ok (.iconst 1, 1) := by decide +kernel
theorem dX7_isBit_22 : decode cX7_isBit 22 = .ok (.goto 4, 3) := by decide +kernel
theorem dX7_isBit_25 : decode cX7_isBit 25 = .ok (.iconst 0, 1) := by decide +kernel
theorem dX7_isBit_26 : decode cX7_isBit 26 = .ok (.ireturn, 1) := by decide +kernel
theorem dX7_set_0 : decode cX7_set 0 = .ok (.aload_n 0, 1) := by decide +kernel
theorem dX7_set_1 : decode cX7_set 1 = .ok (.getfield 23, 3) := by decide +kernel
theorem dX7_set_4 : decode cX7_set 4 = .ok (.iload_n 1, 1) := by decide +kernel
theorem dX7_set_5 : decode cX7_set 5 = .ok (.aload_n 0, 1) := by decide +kernel
theorem dX7_set_6 : decode cX7_set 6 = .ok (.getfield 27, 3) := by decide +kernel
theorem dX7_set_9 : decode cX7_set 9 = .ok (.iload_n 1, 1) := by decide +kernel
theorem dX7_set_10 : decode cX7_set 10 = .ok (.iaload, 1) := by decide +kernel
theorem dX7_set_11 : decode cX7_set 11 = .ok (.iconst (-1), 1) := by decide +kernel
theorem dX7_set_12 : decode cX7_set 12 = .ok (.if_icmp .ne 7, 3) := by decide +kernel
theorem dX7_set_15 : decode cX7_set 15 = .ok (.iload_n 2, 1) := by decide +kernel
theorem dX7_set_16 : decode cX7_set 16 = .ok (.goto 9, 3) := by decide +kernel
theorem dX7_set_19 : decode cX7_set 19 = .ok (.aload_n 0, 1) := by decide +kernel
theorem dX7_set_20 : decode cX7_set 20 = .ok (.getfield 23, 3) := by decide +kernel
theorem dX7_set_23 : decode cX7_set 23 = .ok (.iload_n 1, 1) := by decide +kernel
theorem dX7_set_24 : decode cX7_set 24 = .ok (.baload, 1) := by decide +kernel
theorem dX7_set_25 : decode cX7_set 25 = .ok (.bastore, 1) := by decide +kernel
theorem dX7_set_26 : decode cX7_set 26 = .ok (.return_, 1) := by decide +kernel
theorem dX7_program_0 : decode cX7_program 0 = .ok (.iconst 0, 1) := by decide +kernel
theorem dX7_program_1 : decode cX7_program 1 = .ok (.istore_n 2, 1) := by decide +kernel
theorem dX7_program_2 : decode cX7_program 2 = .ok (.iconst 0, 1) := by decide +kernel
theorem dX7_program_3 : decode cX7_program 3 = .ok (.istore_n 3, 1) := by decide +kernel
theorem dX7_program_4 : decode cX7_program 4 = .ok (.iload_n 3, 1) := by decide +kernel
theorem dX7_program_5 : decode cX7_program 5 = .ok (.aload_n 0, 1) := by decide +kernel
theorem dX7_program_6 : decode cX7_program 6 = .ok (.getfield 113, 3) := by decide +kernel
theorem dX7_program_9 : decode cX7_program 9 = .ok (.if_icmp .ge 58, 3) := by decide +kernel
theorem dX7_program_12 : decode cX7_program 12 = .ok (.sipush 2200, 3) := by decide +kernel
theorem dX7_program_15 : decode cX7_program 15 = .ok (.iload_n 1, 1) := by decide +kernel
theorem dX7_program_16 : decode cX7_program 16 = .ok (.imul, 1) := by decide +kernel
theorem dX7_program_17 : decode cX7_program 17 = .ok (.iload_n 3, 1) := by decide +kernel
theorem dX7_program_18 : decode cX7_program 18 = .ok (.iadd, 1) := by decide +kernel
theorem dX7_program_19 : decode cX7_program 19 = .ok (.istore 4, 2) := by decide +kernel
theorem dX7_program_21 : decode cX7_program 21 = .ok (.aload_n 0, 1) := by decide +kernel
theorem dX7_program_22 : decode cX7_program 22 = .ok (.getfield 45, 3) := by decide +kernel
theorem dX7_program_25 : decode cX7_program 25 = .ok (.iload_n 3, 1) := by decide +kernel
theorem dX7_program_26 : decode cX7_program 26 = .ok (.baload, 1) := by decide +kernel
theorem dX7_program_27 : decode cX7_program 27 = .ok (.ifCond .ne 10, 3) := by decide +kernel
theorem dX7_program_30 : decode cX7_program 30 = .ok (.aload_n 0, 1) := by decide +kernel
theorem dX7_program_31 : decode cX7_program 31 = .ok (.iload 4, 2) := by decide +kernel
theorem dX7_program_33 : decode cX7_program 33 = .ok (.iconst 0, 1) := by decide +kernel
theorem dX7_program_34 : decode cX7_program 34 = .ok (.invokevirtual 145, 3) := by decide +kernel
theorem dX7_program_37 : decode cX7_program 37 = .ok (.iload_n 2, 1) := by decide +kernel
theorem dX7_program_38 : decode cX7_program 38 = .ok (.aload_n 0, 1) := by decide +kernel
theorem dX7_program_39 : decode cX7_program 39 = .ok (.getfield 23, 3) := by decide +kernel
theorem dX7_program_42 : decode cX7_program 42 = .ok (.iload 4, 2) := by decide +kernel
theorem dX7_program_44 : decode cX7_program 44 = .ok (.baload, 1) := by decide +kernel
theorem dX7_program_45 : decode cX7_program 45 = .ok (.aload_n 0, 1) := by decide +kernel
theorem dX7_program_46 : decode cX7_program 46 = .ok (.getfield 45, 3) := by decide +kernel
theorem dX7_program_49 : decode cX7_program 49 = .ok (.iload_n 3, 1) := by decide +kernel
theorem dX7_program_50 : decode cX7_program 50 = .ok (.baload, 1) := by decide +kernel
theorem dX7_program_51 : decode cX7_program 51 = .ok (.if_icmp .eq 7, 3) := by decide +kernel
theorem dX7_program_54 : decode cX7_program 54 = .ok (.iconst 1, 1) := by decide +kernel
theorem dX7_program_55 : decode cX7_program 55 = .ok (.goto 4, 3) := by decide +kernel
theorem dX7_program_58 : decode cX7_program 58 = .ok (.iconst 0, 1) := by decide +kernel
theorem dX7_program_59 : decode cX7_program 59 = .ok (.iadd, 1) := by decide +kernel
theorem dX7_program_60 : decode cX7_program 60 = .ok (.istore_n 2, 1) := by decide +kernel
theorem dX7_program_61 : decode cX7_program 61 = .ok (.iinc 3 1, 3) := by decide +kernel
theorem dX7_program_64 : decode cX7_program 64 = .ok (.goto (-60), 3) := by decide +kernel
theorem dX7_program_67 : decode cX7_program 67 = .ok (.iload_n 2, 1) := by decide +kernel
theorem dX7_program_68 : decode cX7_program 68 = .ok (.ireturn, 1) := by decide +kernel
theorem dX7_wipe_0 : decode cX7_wipe 0 = .ok (.iconst 0, 1) := by decide +kernel
theorem dX7_wipe_1 : decode cX7_wipe 1 = .ok (.istore_n 2, 1) := by decide +kernel
theorem dX7_wipe_2 : decode cX7_wipe 2 = .ok (.iload_n 2, 1) := by decide +kernel
theorem dX7_wipe_3 : decode cX7_wipe 3 = .ok (.aload_n 0, 1) := by decide +kernel
theorem dX7_wipe_4 : decode cX7_wipe 4 = .ok (.getfield 113, 3) := by decide +kernel
theorem dX7_wipe_7 : decode cX7_wipe 7 = .ok (.if_icmp .ge 34, 3) := by decide +kernel
theorem dX7_wipe_10 : decode cX7_wipe 10 = .ok (.aload_n 0, 1) := by decide +kernel
theorem dX7_wipe_11 : decode cX7_wipe 11 = .ok (.sipush 2200, 3) := by decide +kernel
theorem dX7_wipe_14 : decode cX7_wipe 14 = .ok (.iload_n 1, 1) := by decide +kernel
theorem dX7_wipe_15 : decode cX7_wipe 15 = .ok (.imul, 1) := by decide +kernel
theorem dX7_wipe_16 : decode cX7_wipe 16 = .ok (.iload_n 2, 1) := by decide +kernel
theorem dX7_wipe_17 : decode cX7_wipe 17 = .ok (.iadd, 1) := by decide +kernel
theorem dX7_wipe_18 : decode cX7_wipe 18 = .ok (.iconst 1, 1) := by decide +kernel
theorem dX7_wipe_19 : decode cX7_wipe 19 = .ok (.invokevirtual 145, 3) := by decide +kernel
theorem dX7_wipe_22 : decode cX7_wipe 22 = .ok (.aload_n 0, 1) := by decide +kernel
theorem dX7_wipe_23 : decode cX7_wipe 23 = .ok (.getfield 30, 3) := by decide +kernel
theorem dX7_wipe_26 : decode cX7_wipe 26 = .ok (.sipush 2200, 3) := by decide +kernel
theorem dX7_wipe_29 : decode cX7_wipe 29 = .ok (.iload_n 1, 1) := by decide +kernel
theorem dX7_wipe_30 : decode cX7_wipe 30 = .ok (.imul, 1) := by decide +kernel
theorem dX7_wipe_31 : decode cX7_wipe 31 = .ok (.iload_n 2, 1) := by decide +kernel
theorem dX7_wipe_32 : decode cX7_wipe 32 = .ok (.iadd, 1) := by decide +kernel
theorem dX7_wipe_33 : decode cX7_wipe 33 = .ok (.iconst 0, 1) := by decide +kernel
theorem dX7_wipe_34 : decode cX7_wipe 34 = .ok (.bastore, 1) := by decide +kernel
theorem dX7_wipe_35 : decode cX7_wipe 35 = .ok (.iinc 2 1, 3) := by decide +kernel
theorem dX7_wipe_38 : decode cX7_wipe 38 = .ok (.goto (-36), 3) := by decide +kernel
theorem dX7_wipe_41 : decode cX7_wipe 41 = .ok (.aload_n 0, 1) := by decide +kernel
theorem dX7_wipe_42 : decode cX7_wipe 42 = .ok (.getfield 33, 3) := by decide +kernel
theorem dX7_wipe_45 : decode cX7_wipe 45 = .ok (.iload_n 1, 1) := by decide +kernel
theorem dX7_wipe_46 : decode cX7_wipe 46 = .ok (.dup2, 1) := by decide +kernel
theorem dX7_wipe_47 : decode cX7_wipe 47 = .ok (.iaload, 1) := by decide +kernel
theorem dX7_wipe_48 : decode cX7_wipe 48 = .ok (.iconst 1, 1) := by decide +kernel
theorem dX7_wipe_49 : decode cX7_wipe 49 = .ok (.iadd, 1) := by decide +kernel
end
section
theorem dX7_wipe_50 : decode cX7_wipe 50 = .ok (.iastore, 1) := by decide +kernel
theorem dX7_wipe_51 : decode cX7_wipe 51 = .ok (.return_, 1) := by decide +kernel
theorem dX7_write_0 : decode cX7_write 0 = .ok (.aload_n 0, 1) := by decide +kernel
theorem dX7_write_1 : decode cX7_write 1 = .ok (.getfield 100, 3) := by decide +kernel
theorem dX7_write_4 : decode cX7_write 4 = .ok (.ifCond .ne 6, 3) := by decide +kernel
theorem dX7_write_7 : decode cX7_write 7 = .ok (.bipush (-3), 2) := by decide +kernel
theorem dX7_write_9 : decode cX7_write 9 = .ok (.ireturn, 1) := by decide +kernel
theorem dX7_write_10 : decode cX7_write 10 = .ok (.iload_n 1, 1) := by decide +kernel
theorem dX7_write_11 : decode cX7_write 11 = .ok (.invokestatic 142, 3) := by decide +kernel
theorem dX7_write_14 : decode cX7_write 14 = .ok (.ifCond .ne 6, 3) := by decide +kernel
theorem dX7_write_17 : decode cX7_write 17 = .ok (.bipush (-2), 2) := by decide +kernel
theorem dX7_write_19 : decode cX7_write 19 = .ok (.ireturn, 1) := by decide +kernel
theorem dX7_write_20 : decode cX7_write 20 = .ok (.aload_n 0, 1) := by decide +kernel
theorem dX7_write_21 : decode cX7_write 21 = .ok (.invokevirtual 139, 3) := by decide +kernel
theorem dX7_write_24 : decode cX7_write 24 = .ok (.aload_n 0, 1) := by decide +kernel
theorem dX7_write_25 : decode cX7_write 25 = .ok (.iload_n 1, 1) := by decide +kernel
theorem dX7_write_26 : decode cX7_write 26 = .ok (.invokevirtual 149, 3) := by decide +kernel
theorem dX7_write_29 : decode cX7_write 29 = .ok (.ireturn, 1) := by decide +kernel
theorem dX7_erase_0 : decode cX7_erase 0 = .ok (.aload_n 0, 1) := by decide +kernel
theorem dX7_erase_1 : decode cX7_erase 1 = .ok (.getfield 100, 3) := by decide +kernel
theorem dX7_erase_4 : decode cX7_erase 4 = .ok (.ifCond .ne 6, 3) := by decide +kernel
theorem dX7_erase_7 : decode cX7_erase 7 = .ok (.bipush (-3), 2) := by decide +kernel
theorem dX7_erase_9 : decode cX7_erase 9 = .ok (.ireturn, 1) := by decide +kernel
theorem dX7_erase_10 : decode cX7_erase 10 = .ok (.iload_n 1, 1) := by decide +kernel
theorem dX7_erase_11 : decode cX7_erase 11 = .ok (.invokestatic 142, 3) := by decide +kernel
theorem dX7_erase_14 : decode cX7_erase 14 = .ok (.ifCond .ne 6, 3) := by decide +kernel
theorem dX7_erase_17 : decode cX7_erase 17 = .ok (.bipush (-2), 2) := by decide +kernel
theorem dX7_erase_19 : decode cX7_erase 19 = .ok (.ireturn, 1) := by decide +kernel
theorem dX7_erase_20 : decode cX7_erase 20 = .ok (.aload_n 0, 1) := by decide +kernel
theorem dX7_erase_21 : decode cX7_erase 21 = .ok (.iload_n 1, 1) := by decide +kernel
theorem dX7_erase_22 : decode cX7_erase 22 = .ok (.invokevirtual 152, 3) := by decide +kernel
theorem dX7_erase_25 : decode cX7_erase 25 = .ok (.aload_n 0, 1) := by decide +kernel
theorem dX7_erase_26 : decode cX7_erase 26 = .ok (.getfield 33, 3) := by decide +kernel
theorem dX7_erase_29 : decode cX7_erase 29 = .ok (.iload_n 1, 1) := by decide +kernel
theorem dX7_erase_30 : decode cX7_erase 30 = .ok (.iaload, 1) := by decide +kernel
theorem dX7_erase_31 : decode cX7_erase 31 = .ok (.ireturn, 1) := by decide +kernel
theorem dX7_flip_0 : decode cX7_flip 0 = .ok (.aload_n 0, 1) := by decide +kernel
theorem dX7_flip_1 : decode cX7_flip 1 = .ok (.getfield 100, 3) := by decide +kernel
theorem dX7_flip_4 : decode cX7_flip 4 = .ok (.ifCond .ne 6, 3) := by decide +kernel
theorem dX7_flip_7 : decode cX7_flip 7 = .ok (.bipush (-3), 2) := by decide +kernel
theorem dX7_flip_9 : decode cX7_flip 9 = .ok (.ireturn, 1) := by decide +kernel
theorem dX7_flip_10 : decode cX7_flip 10 = .ok (.aload_n 0, 1) := by decide +kernel
theorem dX7_flip_11 : decode cX7_flip 11 = .ok (.iload_n 1, 1) := by decide +kernel
theorem dX7_flip_12 : decode cX7_flip 12 = .ok (.iload_n 2, 1) := by decide +kernel
theorem dX7_flip_13 : decode cX7_flip 13 = .ok (.invokevirtual 155, 3) := by decide +kernel
theorem dX7_flip_16 : decode cX7_flip 16 = .ok (.ifCond .ne 6, 3) := by decide +kernel
theorem dX7_flip_19 : decode cX7_flip 19 = .ok (.bipush (-2), 2) := by decide +kernel
theorem dX7_flip_21 : decode cX7_flip 21 = .ok (.ireturn, 1) := by decide +kernel
theorem dX7_flip_22 : decode cX7_flip 22 = .ok (.sipush 2200, 3) := by decide +kernel
theorem dX7_flip_25 : decode cX7_flip 25 = .ok (.iload_n 1, 1) := by decide +kernel
theorem dX7_flip_26 : decode cX7_flip 26 = .ok (.imul, 1) := by decide +kernel
theorem dX7_flip_27 : decode cX7_flip 27 = .ok (.iload_n 2, 1) := by decide +kernel
theorem dX7_flip_28 : decode cX7_flip 28 = .ok (.iadd, 1) := by decide +kernel
theorem dX7_flip_29 : decode cX7_flip 29 = .ok (.istore_n 3, 1) := by decide +kernel
theorem dX7_flip_30 : decode cX7_flip 30 = .ok (.aload_n 0, 1) := by decide +kernel
theorem dX7_flip_31 : decode cX7_flip 31 = .ok (.iload_n 3, 1) := by decide +kernel
theorem dX7_flip_32 : decode cX7_flip 32 = .ok (.aload_n 0, 1) := by decide +kernel
theorem dX7_flip_33 : decode cX7_flip 33 = .ok (.getfield 23, 3) := by decide +kernel
theorem dX7_flip_36 : decode cX7_flip 36 = .ok (.iload_n 3, 1) := by decide +kernel
theorem dX7_flip_37 : decode cX7_flip 37 = .ok (.baload, 1) := by decide +kernel
theorem dX7_flip_38 : decode cX7_flip 38 = .ok (.ifCond .ne 7, 3) := by decide +kernel
theorem dX7_flip_41 : decode cX7_flip 41 = .ok (.iconst 1, 1) := by decide +kernel
theorem dX7_flip_42 : decode cX7_flip 42 = .ok (.goto 4, 3) := by decide +kernel
theorem dX7_flip_45 : decode cX7_flip 45 = .ok (.iconst 0, 1) := by decide +kernel
theorem dX7_flip_46 : decode cX7_flip 46 = .ok (.invokevirtual 145, 3) := by decide +kernel
theorem dX7_flip_49 : decode cX7_flip 49 = .ok (.aload_n 0, 1) := by decide +kernel
theorem dX7_flip_50 : decode cX7_flip 50 = .ok (.getfield 23, 3) := by decide +kernel
theorem dX7_flip_53 : decode cX7_flip 53 = .ok (.iload_n 3, 1) := by decide +kernel
theorem dX7_flip_54 : decode cX7_flip 54 = .ok (.baload, 1) := by decide +kernel
theorem dX7_flip_55 : decode cX7_flip 55 = .ok (.ifCond .eq 7, 3) := by decide +kernel
theorem dX7_flip_58 : decode cX7_flip 58 = .ok (.iconst 1, 1) := by decide +kernel
theorem dX7_flip_59 : decode cX7_flip 59 = .ok (.goto 4, 3) := by decide +kernel
theorem dX7_flip_62 : decode cX7_flip 62 = .ok (.iconst 0, 1) := by decide +kernel
theorem dX7_flip_63 : decode cX7_flip 63 = .ok (.ireturn, 1) := by decide +kernel
theorem dX7_countStuck_0 : decode cX7_countStuck 0 = .ok (.iconst 0, 1) := by decide +kernel
theorem dX7_countStuck_1 : decode cX7_countStuck 1 = .ok (.istore_n 2, 1) := by decide +kernel
theorem dX7_countStuck_2 : decode cX7_countStuck 2 = .ok (.iconst 0, 1) := by decide +kernel
theorem dX7_countStuck_3 : decode cX7_countStuck 3 = .ok (.istore_n 3, 1) := by decide +kernel
theorem dX7_countStuck_4 : decode cX7_countStuck 4 = .ok (.iload_n 3, 1) := by decide +kernel
theorem dX7_countStuck_5 : decode cX7_countStuck 5 = .ok (.aload_n 0, 1) := by decide +kernel
theorem dX7_countStuck_6 : decode cX7_countStuck 6 = .ok (.getfield 113, 3) := by decide +kernel
theorem dX7_countStuck_9 : decode cX7_countStuck 9 = .ok (.if_icmp .ge 33, 3) := by decide +kernel
theorem dX7_countStuck_12 : decode cX7_countStuck 12 = .ok (.iload_n 2, 1) := by decide +kernel
theorem dX7_countStuck_13 : decode cX7_countStuck 13 = .ok (.aload_n 0, 1) := by decide +kernel
theorem dX7_countStuck_14 : decode cX7_countStuck 14 = .ok (.getfield 27, 3) := by decide +kernel
theorem dX7_countStuck_17 : decode cX7_countStuck 17 = .ok (.sipush 2200, 3) := by decide +kernel
theorem dX7_countStuck_20 : decode cX7_countStuck 20 = .ok (.iload_n 1, 1) := by decide +kernel
theorem dX7_countStuck_21 : decode cX7_countStuck 21 = .ok (.imul, 1) := by decide +kernel
theorem dX7_countStuck_22 : decode cX7_countStuck 22 = .ok (.iload_n 3, 1) := by decide +kernel
theorem dX7_countStuck_23 : decode cX7_countStuck 23 = .ok (.iadd, 1) := by decide +kernel
theorem dX7_countStuck_24 : decode cX7_countStuck 24 = .ok (.iaload, 1) := by decide +kernel
theorem dX7_countStuck_25 : decode cX7_countStuck 25 = .ok (.iconst (-1), 1) := by decide +kernel
theorem dX7_countStuck_26 : decode cX7_countStuck 26 = .ok (.if_icmp .ne 7, 3) := by decide +kernel
theorem dX7_countStuck_29 : decode cX7_countStuck 29 = .ok (.iconst 0, 1) := by decide +kernel
theorem dX7_countStuck_30 : decode cX7_countStuck 30 = .ok (.goto 4, 3) := by decide +kernel
theorem dX7_countStuck_33 : decode cX7_countStuck 33 = .ok (.iconst 1, 1) := by decide +kernel
theorem dX7_countStuck_34 : decode cX7_countStuck 34 = .ok (.iadd, 1) := by decide +kernel
theorem dX7_countStuck_35 : decode cX7_countStuck 35 = .ok (.istore_n 2, 1) := by decide +kernel
theorem dX7_countStuck_36 : decode cX7_countStuck 36 = .ok (.iinc 3 1, 3) := by decide +kernel
theorem dX7_countStuck_39 : decode cX7_countStuck 39 = .ok (.goto (-35), 3) := by decide +kernel
theorem dX7_countStuck_42 : decode cX7_countStuck 42 = .ok (.iload_n 2, 1) := by decide +kernel
theorem dX7_countStuck_43 : decode cX7_countStuck 43 = .ok (.ireturn, 1) := by decide +kernel
theorem dX7_countMarks_0 : decode cX7_countMarks 0 = .ok (.iconst 0, 1) := by decide +kernel
theorem dX7_countMarks_1 : decode cX7_countMarks 1 = .ok (.istore_n 2, 1) := by decide +kernel
theorem dX7_countMarks_2 : decode cX7_countMarks 2 = .ok (.iconst 0, 1) := by decide +kernel
theorem dX7_countMarks_3 : decode cX7_countMarks 3 = .ok (.istore_n 3, 1) := by decide +kernel
theorem dX7_countMarks_4 : decode cX7_countMarks 4 = .ok (.iload_n 3, 1) := by decide +kernel
theorem dX7_countMarks_5 : decode cX7_countMarks 5 = .ok (.aload_n 0, 1) := by decide +kernel
theorem dX7_countMarks_6 : decode cX7_countMarks 6 = .ok (.getfield 113, 3) := by decide +kernel
theorem dX7_countMarks_9 : decode cX7_countMarks 9 = .ok (.if_icmp .ge 32, 3) := by decide +kernel
theorem dX7_countMarks_12 : decode cX7_countMarks 12 = .ok (.iload_n 2, 1) := by decide +kernel
theorem dX7_countMarks_13 : decode cX7_countMarks 13 = .ok (.aload_n 0, 1) := by decide +kernel
theorem dX7_countMarks_14 : decode cX7_countMarks 14 = .ok (.getfield 30, 3) := by decide +kernel
theorem dX7_countMarks_17 : decode cX7_countMarks 17 = .ok (.sipush 2200, 3) := by decide +kernel
theorem dX7_countMarks_20 : decode cX7_countMarks 20 = .ok (.iload_n 1, 1) := by decide +kernel
theorem dX7_countMarks_21 : decode cX7_countMarks 21 = .ok (.imul, 1) := by decide +kernel
theorem dX7_countMarks_22 : decode cX7_countMarks 22 = .ok (.iload_n 3, 1) := by decide +kernel
theorem dX7_countMarks_23 : decode cX7_countMarks 23 = .ok (.iadd, 1) := by decide +kernel
theorem dX7_countMarks_24 : decode cX7_countMarks 24 = .ok (.baload, 1) := by decide +kernel
theorem dX7_countMarks_25 : decode cX7_countMarks 25 = .ok (.ifCond .eq 7, 3) := by decide +kernel
theorem dX7_countMarks_28 : decode cX7_countMarks 28 = .ok (.iconst 1, 1) := by decide +kernel
theorem dX7_countMarks_29 : decode cX7_countMarks 29 = .ok (.goto 4, 3) := by decide +kernel
theorem dX7_countMarks_32 : decode cX7_countMarks 32 = .ok (.iconst 0, 1) := by decide +kernel
theorem dX7_countMarks_33 : decode cX7_countMarks 33 = .ok (.iadd, 1) := by decide +kernel
theorem dX7_countMarks_34 : decode cX7_countMarks 34 = .ok (.istore_n 2, 1) := by decide +kernel
theorem dX7_countMarks_35 : decode cX7_countMarks 35 = .ok (.iinc 3 1, 3) := by decide +kernel
theorem dX7_countMarks_38 : decode cX7_countMarks 38 = .ok (.goto (-34), 3) := by decide +kernel
theorem dX7_countMarks_41 : decode cX7_countMarks 41 = .ok (.iload_n 2, 1) := by decide +kernel
theorem dX7_countMarks_42 : decode cX7_countMarks 42 = .ok (.ireturn, 1) := by decide +kernel
theorem dX7_stick_0 : decode cX7_stick 0 = .ok (.aload_n 0, 1) := by decide +kernel
theorem dX7_stick_1 : decode cX7_stick 1 = .ok (.getfield 100, 3) := by decide +kernel
theorem dX7_stick_4 : decode cX7_stick 4 = .ok (.ifCond .ne 6, 3) := by decide +kernel
theorem dX7_stick_7 : decode cX7_stick 7 = .ok (.bipush (-3), 2) := by decide +kernel
theorem dX7_stick_9 : decode cX7_stick 9 = .ok (.ireturn, 1) := by decide +kernel
theorem dX7_stick_10 : decode cX7_stick 10 = .ok (.aload_n 0, 1) := by decide +kernel
theorem dX7_stick_11 : decode cX7_stick 11 = .ok (.iload_n 1, 1) := by decide +kernel
theorem dX7_stick_12 : decode cX7_stick 12 = .ok (.iload_n 2, 1) := by decide +kernel
theorem dX7_stick_13 : decode cX7_stick 13 = .ok (.invokevirtual 155, 3) := by decide +kernel
theorem dX7_stick_16 : decode cX7_stick 16 = .ok (.ifCond .eq 12, 3) := by decide +kernel
theorem dX7_stick_19 : decode cX7_stick 19 = .ok (.iload_n 3, 1) := by decide +kernel
theorem dX7_stick_20 : decode cX7_stick 20 = .ok (.iconst (-1), 1) := by decide +kernel
theorem dX7_stick_21 : decode cX7_stick 21 = .ok (.iconst 1, 1) := by decide +kernel
theorem dX7_stick_22 : decode cX7_stick 22 = .ok (.invokestatic 68, 3) := by decide +kernel
theorem dX7_stick_25 : decode cX7_stick 25 = .ok (.ifCond .ne 6, 3) := by decide +kernel
theorem dX7_stick_28 : decode cX7_stick 28 = .ok (.bipush (-2), 2) := by decide +kernel
theorem dX7_stick_30 : decode cX7_stick 30 = .ok (.ireturn, 1) := by decide +kernel
theorem dX7_stick_31 : decode cX7_stick 31 = .ok (.sipush 2200, 3) := by decide +kernel
theorem dX7_stick_34 : decode cX7_stick 34 = .ok (.iload_n 1, 1) := by decide +kernel
theorem dX7_stick_35 : decode cX7_stick 35 = .ok (.imul, 1) := by decide +kernel
theorem dX7_stick_36 : decode cX7_stick 36 = .ok (.iload_n 2, 1) := by decide +kernel
theorem dX7_stick_37 : decode cX7_stick 37 = .ok (.iadd, 1) := by decide +kernel
theorem dX7_stick_38 : decode cX7_stick 38 = .ok (.istore 4, 2) := by decide +kernel
theorem dX7_stick_40 : decode cX7_stick 40 = .ok (.aload_n 0, 1) := by decide +kernel
theorem dX7_stick_41 : decode cX7_stick 41 = .ok (.getfield 27, 3) := by decide +kernel
theorem dX7_stick_44 : decode cX7_stick 44 = .ok (.iload 4, 2) := by decide +kernel
theorem dX7_stick_46 : decode cX7_stick 46 = .ok (.iload_n 3, 1) := by decide +kernel
theorem dX7_stick_47 : decode cX7_stick 47 = .ok (.iastore, 1) := by decide +kernel
theorem dX7_stick_48 : decode cX7_stick 48 = .ok (.aload_n 0, 1) := by decide +kernel
theorem dX7_stick_49 : decode cX7_stick 49 = .ok (.getfield 23, 3) := by decide +kernel
theorem dX7_stick_52 : decode cX7_stick 52 = .ok (.iload 4, 2) := by decide +kernel
theorem dX7_stick_54 : decode cX7_stick 54 = .ok (.iload_n 3, 1) := by decide +kernel
theorem dX7_stick_55 : decode cX7_stick 55 = .ok (.iconst (-1), 1) := by decide +kernel
theorem dX7_stick_56 : decode cX7_stick 56 = .ok (.if_icmp .ne 13, 3) := by decide +kernel
theorem dX7_stick_59 : decode cX7_stick 59 = .ok (.aload_n 0, 1) := by decide +kernel
theorem dX7_stick_60 : decode cX7_stick 60 = .ok (.getfield 23, 3) := by decide +kernel
theorem dX7_stick_63 : decode cX7_stick 63 = .ok (.iload 4, 2) := by decide +kernel
theorem dX7_stick_65 : decode cX7_stick 65 = .ok (.baload, 1) := by decide +kernel
theorem dX7_stick_66 : decode cX7_stick 66 = .ok (.goto 13, 3) := by decide +kernel
theorem dX7_stick_69 : decode cX7_stick 69 = .ok (.iload_n 3, 1) := by decide +kernel
theorem dX7_stick_70 : decode cX7_stick 70 = .ok (.iconst 1, 1) := by decide +kernel
theorem dX7_stick_71 : decode cX7_stick 71 = .ok (.if_icmp .ne 7, 3) := by decide +kernel
theorem dX7_stick_74 : decode cX7_stick 74 = .ok (.iconst 1, 1) := by decide +kernel
theorem dX7_stick_75 : decode cX7_stick 75 = .ok (.goto 4, 3) := by decide +kernel
theorem dX7_stick_78 : decode cX7_stick 78 = .ok (.iconst 0, 1) := by decide +kernel
theorem dX7_stick_79 : decode cX7_stick 79 = .ok (.bastore, 1) := by decide +kernel
theorem dX7_stick_80 : decode cX7_stick 80 = .ok (.aload_n 0, 1) := by decide +kernel
theorem dX7_stick_81 : decode cX7_stick 81 = .ok (.iload_n 1, 1) := by decide +kernel
theorem dX7_stick_82 : decode cX7_stick 82 = .ok (.invokevirtual 159, 3) := by decide +kernel
theorem dX7_stick_85 : decode cX7_stick 85 = .ok (.ireturn, 1) := by decide +kernel
theorem dX7_mark_0 : decode cX7_mark 0 = .ok (.aload_n 0, 1) := by decide +kernel
theorem dX7_mark_1 : decode cX7_mark 1 = .ok (.getfield 100, 3) := by decide +kernel
theorem dX7_mark_4 : decode cX7_mark 4 = .ok (.ifCond .ne 6, 3) := by decide +kernel
theorem dX7_mark_7 : decode cX7_mark 7 = .ok (.bipush (-3), 2) := by decide +kernel
theorem dX7_mark_9 : decode cX7_mark 9 = .ok (.ireturn, 1) := by decide +kernel
theorem dX7_mark_10 : decode cX7_mark 10 = .ok (.aload_n 0, 1) := by decide +kernel
theorem dX7_mark_11 : decode cX7_mark 11 = .ok (.iload_n 1, 1) := by decide +kernel
theorem dX7_mark_12 : decode cX7_mark 12 = .ok (.iload_n 2, 1) := by decide +kernel
theorem dX7_mark_13 : decode cX7_mark 13 = .ok (.invokevirtual 155, 3) := by decide +kernel
theorem dX7_mark_16 : decode cX7_mark 16 = .ok (.ifCond .ne 6, 3) := by decide +kernel
theorem dX7_mark_19 : decode cX7_mark 19 = .ok (.bipush (-2), 2) := by decide +kernel
theorem dX7_mark_21 : decode cX7_mark 21 = .ok (.ireturn, 1) := by decide +kernel
theorem dX7_mark_22 : decode cX7_mark 22 = .ok (.aload_n 0, 1) := by decide +kernel
theorem dX7_mark_23 : decode cX7_mark 23 = .ok (.getfield 30, 3) := by decide +kernel
theorem dX7_mark_26 : decode cX7_mark 26 = .ok (.sipush 2200, 3) := by decide +kernel
theorem dX7_mark_29 : decode cX7_mark 29 = .ok (.iload_n 1, 1) := by decide +kernel
theorem dX7_mark_30 : decode cX7_mark 30 = .ok (.imul, 1) := by decide +kernel
theorem dX7_mark_31 : decode cX7_mark 31 = .ok (.iload_n 2, 1) := by decide +kernel
theorem dX7_mark_32 : decode cX7_mark 32 = .ok (.iadd, 1) := by decide +kernel
theorem dX7_mark_33 : decode cX7_mark 33 = .ok (.iload_n 3, 1) := by decide +kernel
theorem dX7_mark_34 : decode cX7_mark 34 = .ok (.bastore, 1) := by decide +kernel
theorem dX7_mark_35 : decode cX7_mark 35 = .ok (.aload_n 0, 1) := by decide +kernel
theorem dX7_mark_36 : decode cX7_mark 36 = .ok (.iload_n 1, 1) := by decide +kernel
theorem dX7_mark_37 : decode cX7_mark 37 = .ok (.invokevirtual 162, 3) := by decide +kernel
theorem dX7_mark_40 : decode cX7_mark 40 = .ok (.ireturn, 1) := by decide +kernel
theorem dX7_bit_0 : decode cX7_bit 0 = .ok (.aload_n 0, 1) := by decide +kernel
theorem dX7_bit_1 : decode cX7_bit 1 = .ok (.getfield 100, 3) := by decide +kernel
theorem dX7_bit_4 : decode cX7_bit 4 = .ok (.ifCond .ne 6, 3) := by decide +kernel
theorem dX7_bit_7 : decode cX7_bit 7 = .ok (.bipush (-3), 2) := by decide +kernel
theorem dX7_bit_9 : decode cX7_bit 9 = .ok (.ireturn, 1) := by decide +kernel
theorem dX7_bit_10 : decode cX7_bit 10 = .ok (.aload_n 0, 1) := by decide +kernel
theorem dX7_bit_11 : decode cX7_bit 11 = .ok (.iload_n 1, 1) := by decide +kernel
theorem dX7_bit_12 : decode cX7_bit 12 = .ok (.iload_n 2, 1) := by decide +kernel
theorem dX7_bit_13 : decode cX7_bit 13 = .ok (.invokevirtual 155, 3) := by decide +kernel
theorem dX7_bit_16 : decode cX7_bit 16 = .ok (.ifCond .eq 26, 3) := by decide +kernel
theorem dX7_bit_19 : decode cX7_bit 19 = .ok (.aload_n 0, 1) := by decide +kernel
theorem dX7_bit_20 : decode cX7_bit 20 = .ok (.getfield 23, 3) := by decide +kernel
theorem dX7_bit_23 : decode cX7_bit 23 = .ok (.sipush 2200, 3) := by decide +kernel
theorem dX7_bit_26 : decode cX7_bit 26 = .ok (.iload_n 1, 1) := by decide +kernel
theorem dX7_bit_27 : decode cX7_bit 27 = .ok (.imul, 1) := by decide +kernel
theorem dX7_bit_28 : decode cX7_bit 28 = .ok (.iload_n 2, 1) := by decide +kernel
theorem dX7_bit_29 : decode cX7_bit 29 = .ok (.iadd, 1) := by decide +kernel
theorem dX7_bit_30 : decode cX7_bit 30 = .ok (.baload, 1) := by decide +kernel
theorem dX7_bit_31 : decode cX7_bit 31 = .ok (.ifCond .eq 7, 3) := by decide +kernel
theorem dX7_bit_34 : decode cX7_bit 34 = .ok (.iconst 1, 1) := by decide +kernel
theorem dX7_bit_35 : decode cX7_bit 35 = .ok (.goto 9, 3) := by decide +kernel
theorem dX7_bit_38 : decode cX7_bit 38 = .ok (.iconst 0, 1) := by decide +kernel
theorem dX7_bit_39 : decode cX7_bit 39 = .ok (.goto 5, 3) := by decide +kernel
theorem dX7_bit_42 : decode cX7_bit 42 = .ok (.bipush (-2), 2) := by decide +kernel
theorem dX7_bit_44 : decode cX7_bit 44 = .ok (.ireturn, 1) := by decide +kernel
theorem dX7_isRight_0 : decode cX7_isRight 0 = .ok (.iconst 1, 1) := by decide +kernel
theorem dX7_isRight_1 : decode cX7_isRight 1 = .ok (.istore_n 1, 1) := by decide +kernel
theorem dX7_isRight_2 : decode cX7_isRight 2 = .ok (.iconst 1, 1) := by decide +kernel
theorem dX7_isRight_3 : decode cX7_isRight 3 = .ok (.istore_n 2, 1) := by decide +kernel
theorem dX7_isRight_4 : decode cX7_isRight 4 = .ok (.iload_n 2, 1) := by decide +kernel
theorem dX7_isRight_5 : decode cX7_isRight 5 = .ok (.iconst 2, 1) := by decide +kernel
theorem dX7_isRight_6 : decode cX7_isRight 6 = .ok (.aload_n 0, 1) := by decide +kernel
theorem dX7_isRight_7 : decode cX7_isRight 7 = .ok (.getfield 104, 3) := by decide +kernel
theorem dX7_isRight_10 : decode cX7_isRight 10 = .ok (.imul, 1) := by decide +kernel
theorem dX7_isRight_11 : decode cX7_isRight 11 = .ok (.if_icmp .gt 88, 3) := by decide +kernel
theorem dX7_isRight_14 : decode cX7_isRight 14 = .ok (.iconst 0, 1) := by decide +kernel
theorem dX7_isRight_15 : decode cX7_isRight 15 = .ok (.istore_n 3, 1) := by decide +kernel
theorem dX7_isRight_16 : decode cX7_isRight 16 = .ok (.iconst 0, 1) := by decide +kernel
theorem dX7_isRight_17 : decode cX7_isRight 17 = .ok (.istore 4, 2) := by decide +kernel
theorem dX7_isRight_19 : decode cX7_isRight 19 = .ok (.iload 4, 2) := by decide +kernel
theorem dX7_isRight_21 : decode cX7_isRight 21 = .ok (.aload_n 0, 1) := by decide +kernel
theorem dX7_isRight_22 : decode cX7_isRight 22 = .ok (.getfield 113, 3) := by decide +kernel
theorem dX7_isRight_25 : decode cX7_isRight 25 = .ok (.if_icmp .ge 47, 3) := by decide +kernel
theorem dX7_isRight_28 : decode cX7_isRight 28 = .ok (.iload_n 3, 1) := by decide +kernel
theorem dX7_isRight_29 : decode cX7_isRight 29 = .ok (.aload_n 0, 1) := by decide +kernel
theorem dX7_isRight_30 : decode cX7_isRight 30 = .ok (.getfield 45, 3) := by decide +kernel
theorem dX7_isRight_33 : decode cX7_isRight 33 = .ok (.iload 4, 2) := by decide +kernel
theorem dX7_isRight_35 : decode cX7_isRight 35 = .ok (.baload, 1) := by decide +kernel
theorem dX7_isRight_36 : decode cX7_isRight 36 = .ok (.ifCond .eq 7, 3) := by decide +kernel
theorem dX7_isRight_39 : decode cX7_isRight 39 = .ok (.iconst 0, 1) := by decide +kernel
theorem dX7_isRight_40 : decode cX7_isRight 40 = .ok (.goto 24, 3) := by decide +kernel
theorem dX7_isRight_43 : decode cX7_isRight 43 = .ok (.aload_n 0, 1) := by decide +kernel
theorem dX7_isRight_44 : decode cX7_isRight 44 = .ok (.getfield 7, 3) := by decide +kernel
theorem dX7_isRight_47 : decode cX7_isRight 47 = .ok (.aload_n 0, 1) := by decide +kernel
theorem dX7_isRight_48 : decode cX7_isRight 48 = .ok (.getfield 113, 3) := by decide +kernel
theorem dX7_isRight_51 : decode cX7_isRight 51 = .ok (.iconst 1, 1) := by decide +kernel
theorem dX7_isRight_52 : decode cX7_isRight 52 = .ok (.isub, 1) := by decide +kernel
theorem dX7_isRight_53 : decode cX7_isRight 53 = .ok (.iload 4, 2) := by decide +kernel
theorem dX7_isRight_55 : decode cX7_isRight 55 = .ok (.isub, 1) := by decide +kernel
theorem dX7_isRight_56 : decode cX7_isRight 56 = .ok (.iload_n 2, 1) := by decide +kernel
theorem dX7_isRight_57 : decode cX7_isRight 57 = .ok (.imul, 1) := by decide +kernel
theorem dX7_isRight_58 : decode cX7_isRight 58 = .ok (.aload_n 0, 1) := by decide +kernel
theorem dX7_isRight_59 : decode cX7_isRight 59 = .ok (.getfield 64, 3) := by decide +kernel
theorem dX7_isRight_62 : decode cX7_isRight 62 = .ok (.irem, 1) := by decide +kernel
theorem dX7_isRight_63 : decode cX7_isRight 63 = .ok (.iaload, 1) := by decide +kernel
theorem dX7_isRight_64 : decode cX7_isRight 64 = .ok (.ixor, 1) := by decide +kernel
theorem dX7_isRight_65 : decode cX7_isRight 65 = .ok (.istore_n 3, 1) := by decide +kernel
theorem dX7_isRight_66 : decode cX7_isRight 66 = .ok (.iinc 4 1, 3) := by decide +kernel
theorem dX7_isRight_69 : decode cX7_isRight 69 = .ok (.goto (-50), 3) := by decide +kernel
theorem dX7_isRight_72 : decode cX7_isRight 72 = .ok (.aload_n 0, 1) := by decide +kernel
theorem dX7_isRight_73 : decode cX7_isRight 73 = .ok (.getfield 51, 3) := by decide +kernel
theorem dX7_isRight_76 : decode cX7_isRight 76 = .ok (.iload_n 2, 1) := by decide +kernel
theorem dX7_isRight_77 : decode cX7_isRight 77 = .ok (.iload_n 3, 1) := by decide +kernel
theorem dX7_isRight_78 : decode cX7_isRight 78 = .ok (.iastore, 1) := by decide +kernel
theorem dX7_isRight_79 : decode cX7_isRight 79 = .ok (.iload_n 1, 1) := by decide +kernel
theorem dX7_isRight_80 : decode cX7_isRight 80 = .ok (.ifCond .eq 11, 3) := by decide +kernel
theorem dX7_isRight_83 : decode cX7_isRight 83 = .ok (.iload_n 3, 1) := by decide +kernel
theorem dX7_isRight_84 : decode cX7_isRight 84 = .ok (.ifCond .ne 7, 3) := by decide +kernel
theorem dX7_isRight_87 : decode cX7_isRight 87 = .ok (.iconst 1, 1) := by decide +kernel
theorem dX7_isRight_88 : decode cX7_isRight 88 = .ok (.goto 4, 3) := by decide +kernel
theorem dX7_isRight_91 : decode cX7_isRight 91 = .ok (.iconst 0, 1) := by decide +kernel
theorem dX7_isRight_92 : decode cX7_isRight 92 = .ok (.istore_n 1, 1) := by decide +kernel
theorem dX7_isRight_93 : decode cX7_isRight 93 = .ok (.iinc 2 1, 3) := by decide +kernel
theorem dX7_isRight_96 : decode cX7_isRight 96 = .ok (.goto (-92), 3) := by decide +kernel
theorem dX7_isRight_99 : decode cX7_isRight 99 = .ok (.iload_n 1, 1) := by decide +kernel
theorem dX7_isRight_100 : decode cX7_isRight 100 = .ok (.ireturn, 1) := by decide +kernel
theorem dX7_solves_0 : decode cX7_solves 0 = .ok (.iconst 0, 1) := by decide +kernel
theorem dX7_solves_1 : decode cX7_solves 1 = .ok (.istore_n 2, 1) := by decide +kernel
theorem dX7_solves_2 : decode cX7_solves 2 = .ok (.iload_n 2, 1) := by decide +kernel
theorem dX7_solves_3 : decode cX7_solves 3 = .ok (.iload_n 1, 1) := by decide +kernel
theorem dX7_solves_4 : decode cX7_solves 4 = .ok (.if_icmp .ge 43, 3) := by decide +kernel
theorem dX7_solves_7 : decode cX7_solves 7 = .ok (.iconst 0, 1) := by decide +kernel
theorem dX7_solves_8 : decode cX7_solves 8 = .ok (.istore_n 3, 1) := by decide +kernel
theorem dX7_solves_9 : decode cX7_solves 9 = .ok (.iload_n 3, 1) := by decide +kernel
theorem dX7_solves_10 : decode cX7_solves 10 = .ok (.iload_n 1, 1) := by decide +kernel
theorem dX7_solves_11 : decode cX7_solves 11 = .ok (.if_icmp .gt 30, 3) := by decide +kernel
theorem dX7_solves_14 : decode cX7_solves 14 = .ok (.aload_n 0, 1) := by decide +kernel
theorem dX7_solves_15 : decode cX7_solves 15 = .ok (.getfield 54, 3) := by decide +kernel
theorem dX7_solves_18 : decode cX7_solves 18 = .ok (.bipush 9, 2) := by decide +kernel
theorem dX7_solves_20 : decode cX7_solves 20 = .ok (.iload_n 2, 1) := by decide +kernel
theorem dX7_solves_21 : decode cX7_solves 21 = .ok (.imul, 1) := by decide +kernel
theorem dX7_solves_22 : decode cX7_solves 22 = .ok (.iload_n 3, 1) := by decide +kernel
theorem dX7_solves_23 : decode cX7_solves 23 = .ok (.iadd, 1) := by decide +kernel
theorem dX7_solves_24 : decode cX7_solves 24 = .ok (.aload_n 0, 1) := by decide +kernel
theorem dX7_solves_25 : decode cX7_solves 25 = .ok (.getfield 51, 3) := by decide +kernel
theorem dX7_solves_28 : decode cX7_solves 28 = .ok (.iconst 1, 1) := by decide +kernel
theorem dX7_solves_29 : decode cX7_solves 29 = .ok (.iload_n 2, 1) := by decide +kernel
theorem dX7_solves_30 : decode cX7_solves 30 = .ok (.iadd, 1) := by decide +kernel
theorem dX7_solves_31 : decode cX7_solves 31 = .ok (.iload_n 3, 1) := by decide +kernel
theorem dX7_solves_32 : decode cX7_solves 32 = .ok (.iadd, 1) := by decide +kernel
theorem dX7_solves_33 : decode cX7_solves 33 = .ok (.iaload, 1) := by decide +kernel
theorem dX7_solves_34 : decode cX7_solves 34 = .ok (.iastore, 1) := by decide +kernel
theorem dX7_solves_35 : decode cX7_solves 35 = .ok (.iinc 3 1, 3) := by decide +kernel
theorem dX7_solves_38 : decode cX7_solves 38 = .ok (.goto (-29), 3) := by decide +kernel
theorem dX7_solves_41 : decode cX7_solves 41 = .ok (.iinc 2 1, 3) := by decide +kernel
theorem dX7_solves_44 : decode cX7_solves 44 = .ok (.goto (-42), 3) := by decide +kernel
theorem dX7_solves_47 : decode cX7_solves 47 = .ok (.iconst 0, 1) := by decide +kernel
theorem dX7_solves_48 : decode cX7_solves 48 = .ok (.istore_n 2, 1) := by decide +kernel
theorem dX7_solves_49 : decode cX7_solves 49 = .ok (.iload_n 2, 1) := by decide +kernel
theorem dX7_solves_50 : decode cX7_solves 50 = .ok (.iload_n 1, 1) := by decide +kernel
theorem dX7_solves_51 : decode cX7_solves 51 = .ok (.if_icmp .ge 226, 3) := by decide +kernel
theorem dX7_solves_54 : decode cX7_solves 54 = .ok (.iload_n 2, 1) := by decide +kernel
theorem dX7_solves_55 : decode cX7_solves 55 = .ok (.istore_n 3, 1) := by decide +kernel
theorem dX7_solves_56 : decode cX7_solves 56 = .ok (.iload_n 3, 1) := by decide +kernel
theorem dX7_solves_57 : decode cX7_solves 57 = .ok (.iload_n 1, 1) := by decide +kernel
theorem dX7_solves_58 : decode cX7_solves 58 = .ok (.if_icmp .ge 23, 3) := by decide +kernel
theorem dX7_solves_61 : decode cX7_solves 61 = .ok (.aload_n 0, 1) := by decide +kernel
theorem dX7_solves_62 : decode cX7_solves 62 = .ok (.getfield 54, 3) := by decide +kernel
theorem dX7_solves_65 : decode cX7_solves 65 = .ok (.bipush 9, 2) := by decide +kernel
theorem dX7_solves_67 : decode cX7_solves 67 = .ok (.iload_n 3, 1) := by decide +kernel
theorem dX7_solves_68 : decode cX7_solves 68 = .ok (.imul, 1) := by decide +kernel
theorem dX7_solves_69 : decode cX7_solves 69 = .ok (.iload_n 2, 1) := by decide +kernel
theorem dX7_solves_70 : decode cX7_solves 70 = .ok (.iadd, 1) := by decide +kernel
theorem dX7_solves_71 : decode cX7_solves 71 = .ok (.iaload, 1) := by decide +kernel
theorem dX7_solves_72 : decode cX7_solves 72 = .ok (.ifCond .ne 9, 3) := by decide +kernel
theorem dX7_solves_75 : decode cX7_solves 75 = .ok (.iinc 3 1, 3) := by decide +kernel
theorem dX7_solves_78 : decode cX7_solves 78 = .ok (.goto (-22), 3) := by decide +kernel
theorem dX7_solves_81 : decode cX7_solves 81 = .ok (.iload_n 3, 1) := by decide +kernel
theorem dX7_solves_82 : decode cX7_solves 82 = .ok (.iload_n 1, 1) := by decide +kernel
theorem dX7_solves_83 : decode cX7_solves 83 = .ok (.if_icmp .ne 5, 3) := by decide +kernel
theorem dX7_solves_86 : decode cX7_solves 86 = .ok (.iconst 0, 1) := by decide +kernel
theorem dX7_solves_87 : decode cX7_solves 87 = .ok (.ireturn, 1) := by decide +kernel
theorem dX7_solves_88 : decode cX7_solves 88 = .ok (.aload_n 0, 1) := by decide +kernel
theorem dX7_solves_89 : decode cX7_solves 89 = .ok (.aload_n 0, 1) := by decide +kernel
theorem dX7_solves_90 : decode cX7_solves 90 = .ok (.getfield 54, 3) := by decide +kernel
theorem dX7_solves_93 : decode cX7_solves 93 = .ok (.bipush 9, 2) := by decide +kernel
theorem dX7_solves_95 : decode cX7_solves 95 = .ok (.iload_n 3, 1) := by decide +kernel
theorem dX7_solves_96 : decode cX7_solves 96 = .ok (.imul, 1) := by decide +kernel
theorem dX7_solves_97 : decode cX7_solves 97 = .ok (.iload_n 2, 1) := by decide +kernel
theorem dX7_solves_98 : decode cX7_solves 98 = .ok (.iadd, 1) := by decide +kernel
theorem dX7_solves_99 : decode cX7_solves 99 = .ok (.iaload, 1) := by decide +kernel
theorem dX7_solves_100 : decode cX7_solves 100 = .ok (.invokevirtual 132, 3) := by decide +kernel
theorem dX7_solves_103 : decode cX7_solves 103 = .ok (.istore 4, 2) := by decide +kernel
theorem dX7_solves_105 : decode cX7_solves 105 = .ok (.iconst 0, 1) := by decide +kernel
theorem dX7_solves_106 : decode cX7_solves 106 = .ok (.istore 5, 2) := by decide +kernel
theorem dX7_solves_108 : decode cX7_solves 108 = .ok (.iload 5, 2) := by decide +kernel
theorem dX7_solves_110 : decode cX7_solves 110 = .ok (.iload_n 1, 1) := by decide +kernel
theorem dX7_solves_111 : decode cX7_solves 111 = .ok (.if_icmp .gt 67, 3) := by decide +kernel
theorem dX7_solves_114 : decode cX7_solves 114 = .ok (.aload_n 0, 1) := by decide +kernel
theorem dX7_solves_115 : decode cX7_solves 115 = .ok (.getfield 54, 3) := by decide +kernel
theorem dX7_solves_118 : decode cX7_solves 118 = .ok (.bipush 9, 2) := by decide +kernel
theorem dX7_solves_120 : decode cX7_solves 120 = .ok (.iload_n 3, 1) := by decide +kernel
theorem dX7_solves_121 : decode cX7_solves 121 = .ok (.imul, 1) := by decide +kernel
theorem dX7_solves_122 : decode cX7_solves 122 = .ok (.iload 5, 2) := by decide +kernel
theorem dX7_solves_124 : decode cX7_solves 124 = .ok (.iadd, 1) := by decide +kernel
theorem dX7_solves_125 : decode cX7_solves 125 = .ok (.iaload, 1) := by decide +kernel
theorem dX7_solves_126 : decode cX7_solves 126 = .ok (.istore 6, 2) := by decide +kernel
theorem dX7_solves_128 : decode cX7_solves 128 = .ok (.aload_n 0, 1) := by decide +kernel
theorem dX7_solves_129 : decode cX7_solves 129 = .ok (.getfield 54, 3) := by decide +kernel
theorem dX7_solves_132 : decode cX7_solves 132 = .ok (.bipush 9, 2) := by decide +kernel
theorem dX7_solves_134 : decode cX7_solves 134 = .ok (.iload_n 3, 1) := by decide +kernel
theorem dX7_solves_135 : decode cX7_solves 135 = .ok (.imul, 1) := by decide +kernel
theorem dX7_solves_136 : decode cX7_solves 136 = .ok (.iload 5, 2) := by decide +kernel
theorem dX7_solves_138 : decode cX7_solves 138 = .ok (.iadd, 1) := by decide +kernel
theorem dX7_solves_139 : decode cX7_solves 139 = .ok (.aload_n 0, 1) := by decide +kernel
theorem dX7_solves_140 : decode cX7_solves 140 = .ok (.getfield 54, 3) := by decide +kernel
theorem dX7_solves_143 : decode cX7_solves 143 = .ok (.bipush 9, 2) := by decide +kernel
theorem dX7_solves_145 : decode cX7_solves 145 = .ok (.iload_n 2, 1) := by decide +kernel
theorem dX7_solves_146 : decode cX7_solves 146 = .ok (.imul, 1) := by decide +kernel
theorem dX7_solves_147 : decode cX7_solves 147 = .ok (.iload 5, 2) := by decide +kernel
theorem dX7_solves_149 : decode cX7_solves 149 = .ok (.iadd, 1) := by decide +kernel
theorem dX7_solves_150 : decode cX7_solves 150 = .ok (.iaload, 1) := by decide +kernel
theorem dX7_solves_151 : decode cX7_solves 151 = .ok (.iastore, 1) := by decide +kernel
theorem dX7_solves_152 : decode cX7_solves 152 = .ok (.aload_n 0, 1) := by decide +kernel
theorem dX7_solves_153 : decode cX7_solves 153 = .ok (.getfield 54, 3) := by decide +kernel
theorem dX7_solves_156 : decode cX7_solves 156 = .ok (.bipush 9, 2) := by decide +kernel
theorem dX7_solves_158 : decode cX7_solves 158 = .ok (.iload_n 2, 1) := by decide +kernel
theorem dX7_solves_159 : decode cX7_solves 159 = .ok (.imul, 1) := by decide +kernel
theorem dX7_solves_160 : decode cX7_solves 160 = .ok (.iload 5, 2) := by decide +kernel
theorem dX7_solves_162 : decode cX7_solves 162 = .ok (.iadd, 1) := by decide +kernel
theorem dX7_solves_163 : decode cX7_solves 163 = .ok (.aload_n 0, 1) := by decide +kernel
theorem dX7_solves_164 : decode cX7_solves 164 = .ok (.iload 6, 2) := by decide +kernel
theorem dX7_solves_166 : decode cX7_solves 166 = .ok (.iload 4, 2) := by decide +kernel
theorem dX7_solves_168 : decode cX7_solves 168 = .ok (.invokevirtual 72, 3) := by decide +kernel
theorem dX7_solves_171 : decode cX7_solves 171 = .ok (.iastore, 1) := by decide +kernel
theorem dX7_solves_172 : decode cX7_solves 172 = .ok (.iinc 5 1, 3) := by decide +kernel
theorem dX7_solves_175 : decode cX7_solves 175 = .ok (.goto (-67), 3) := by decide +kernel
theorem dX7_solves_178 : decode cX7_solves 178 = .ok (.iconst 0, 1) := by decide +kernel
theorem dX7_solves_179 : decode cX7_solves 179 = .ok (.istore 5, 2) := by decide +kernel
theorem dX7_solves_181 : decode cX7_solves 181 = .ok (.iload 5, 2) := by decide +kernel
theorem dX7_solves_183 : decode cX7_solves 183 = .ok (.iload_n 1, 1) := by decide +kernel
theorem dX7_solves_184 : decode cX7_solves 184 = .ok (.if_icmp .ge 87, 3) := by decide +kernel
theorem dX7_solves_187 : decode cX7_solves 187 = .ok (.iload 5, 2) := by decide +kernel
theorem dX7_solves_189 : decode cX7_solves 189 = .ok (.iload_n 2, 1) := by decide +kernel
theorem dX7_solves_190 : decode cX7_solves 190 = .ok (.if_icmp .ne 7, 3) := by decide +kernel
theorem dX7_solves_193 : decode cX7_solves 193 = .ok (.iconst 0, 1) := by decide +kernel
theorem dX7_solves_194 : decode cX7_solves 194 = .ok (.goto 15, 3) := by decide +kernel
theorem dX7_solves_197 : decode cX7_solves 197 = .ok (.aload_n 0, 1) := by decide +kernel
theorem dX7_solves_198 : decode cX7_solves 198 = .ok (.getfield 54, 3) := by decide +kernel
theorem dX7_solves_201 : decode cX7_solves 201 = .ok (.bipush 9, 2) := by decide +kernel
theorem dX7_solves_203 : decode cX7_solves 203 = .ok (.iload 5, 2) := by decide +kernel
theorem dX7_solves_205 : decode cX7_solves 205 = .ok (.imul, 1) := by decide +kernel
theorem dX7_solves_206 : decode cX7_solves 206 = .ok (.iload_n 2, 1) := by decide +kernel
theorem dX7_solves_207 : decode cX7_solves 207 = .ok (.iadd, 1) := by decide +kernel
theorem dX7_solves_208 : decode cX7_solves 208 = .ok (.iaload, 1) := by decide +kernel
theorem dX7_solves_209 : decode cX7_solves 209 = .ok (.istore 6, 2) := by decide +kernel
theorem dX7_solves_211 : decode cX7_solves 211 = .ok (.iconst 0, 1) := by decide +kernel
theorem dX7_solves_212 : decode cX7_solves 212 = .ok (.istore 7, 2) := by decide +kernel
theorem dX7_solves_214 : decode cX7_solves 214 = .ok (.iload 7, 2) := by decide +kernel
theorem dX7_solves_216 : decode cX7_solves 216 = .ok (.iload_n 1, 1) := by decide +kernel
theorem dX7_solves_217 : decode cX7_solves 217 = .ok (.if_icmp .gt 48, 3) := by decide +kernel
theorem dX7_solves_220 : decode cX7_solves 220 = .ok (.iload 6, 2) := by decide +kernel
theorem dX7_solves_222 : decode cX7_solves 222 = .ok (.ifCond .eq 43, 3) := by decide +kernel
theorem dX7_solves_225 : decode cX7_solves 225 = .ok (.aload_n 0, 1) := by decide +kernel
theorem dX7_solves_226 : decode cX7_solves 226 = .ok (.getfield 54, 3) := by decide +kernel
theorem dX7_solves_229 : decode cX7_solves 229 = .ok (.bipush 9, 2) := by decide +kernel
theorem dX7_solves_231 : decode cX7_solves 231 = .ok (.iload 5, 2) := by decide +kernel
theorem dX7_solves_233 : decode cX7_solves 233 = .ok (.imul, 1) := by decide +kernel
theorem dX7_solves_234 : decode cX7_solves 234 = .ok (.iload 7, 2) := by decide +kernel
theorem dX7_solves_236 : decode cX7_solves 236 = .ok (.iadd, 1) := by decide +kernel
theorem dX7_solves_237 : decode cX7_solves 237 = .ok (.dup2, 1) := by decide +kernel
theorem dX7_solves_238 : decode cX7_solves 238 = .ok (.iaload, 1) := by decide +kernel
theorem dX7_solves_239 : decode cX7_solves 239 = .ok (.aload_n 0, 1) := by decide +kernel
theorem dX7_solves_240 : decode cX7_solves 240 = .ok (.iload 6, 2) := by decide +kernel
theorem dX7_solves_242 : decode cX7_solves 242 = .ok (.aload_n 0, 1) := by decide +kernel
theorem dX7_solves_243 : decode cX7_solves 243 = .ok (.getfield 54, 3) := by decide +kernel
theorem dX7_solves_246 : decode cX7_solves 246 = .ok (.bipush 9, 2) := by decide +kernel
theorem dX7_solves_248 : decode cX7_solves 248 = .ok (.iload_n 2, 1) := by decide +kernel
theorem dX7_solves_249 : decode cX7_solves 249 = .ok (.imul, 1) := by decide +kernel
theorem dX7_solves_250 : decode cX7_solves 250 = .ok (.iload 7, 2) := by decide +kernel
theorem dX7_solves_252 : decode cX7_solves 252 = .ok (.iadd, 1) := by decide +kernel
theorem dX7_solves_253 : decode cX7_solves 253 = .ok (.iaload, 1) := by decide +kernel
theorem dX7_solves_254 : decode cX7_solves 254 = .ok (.invokevirtual 72, 3) := by decide +kernel
theorem dX7_solves_257 : decode cX7_solves 257 = .ok (.ixor, 1) := by decide +kernel
theorem dX7_solves_258 : decode cX7_solves 258 = .ok (.iastore, 1) := by decide +kernel
theorem dX7_solves_259 : decode cX7_solves 259 = .ok (.iinc 7 1, 3) := by decide +kernel
theorem dX7_solves_262 : decode cX7_solves 262 = .ok (.goto (-48), 3) := by decide +kernel
theorem dX7_solves_265 : decode cX7_solves 265 = .ok (.iinc 5 1, 3) := by decide +kernel
theorem dX7_solves_268 : decode cX7_solves 268 = .ok (.goto (-87), 3) := by decide +kernel
theorem dX7_solves_271 : decode cX7_solves 271 = .ok (.iinc 2 1, 3) := by decide +kernel
theorem dX7_solves_274 : decode cX7_solves 274 = .ok (.goto (-225), 3) := by decide +kernel
theorem dX7_solves_277 : decode cX7_solves 277 = .ok (.aload_n 0, 1) := by decide +kernel
theorem dX7_solves_278 : decode cX7_solves 278 = .ok (.getfield 57, 3) := by decide +kernel
theorem dX7_solves_281 : decode cX7_solves 281 = .ok (.iconst 0, 1) := by decide +kernel
theorem dX7_solves_282 : decode cX7_solves 282 = .ok (.iconst 1, 1) := by decide +kernel
theorem dX7_solves_283 : decode cX7_solves 283 = .ok (.iastore, 1) := by decide +kernel
theorem dX7_solves_284 : decode cX7_solves 284 = .ok (.iconst 0, 1) := by decide +kernel
theorem dX7_solves_285 : decode cX7_solves 285 = .ok (.istore_n 2, 1) := by decide +kernel
theorem dX7_solves_286 : decode cX7_solves 286 = .ok (.iload_n 2, 1) := by decide +kernel
theorem dX7_solves_287 : decode cX7_solves 287 = .ok (.iload_n 1, 1) := by decide +kernel
theorem dX7_solves_288 : decode cX7_solves 288 = .ok (.if_icmp .ge 28, 3) := by decide +kernel
theorem dX7_solves_291 : decode cX7_solves 291 = .ok (.aload_n 0, 1) := by decide +kernel
theorem dX7_solves_292 : decode cX7_solves 292 = .ok (.getfield 57, 3) := by decide +kernel
theorem dX7_solves_295 : decode cX7_solves 295 = .ok (.iload_n 1, 1) := by decide +kernel
theorem dX7_solves_296 : decode cX7_solves 296 = .ok (.iload_n 2, 1) := by decide +kernel
theorem dX7_solves_297 : decode cX7_solves 297 = .ok (.isub, 1) := by decide +kernel
theorem dX7_solves_298 : decode cX7_solves 298 = .ok (.aload_n 0, 1) := by decide +kernel
theorem dX7_solves_299 : decode cX7_solves 299 = .ok (.getfield 54, 3) := by decide +kernel
theorem dX7_solves_302 : decode cX7_solves 302 = .ok (.bipush 9, 2) := by decide +kernel
theorem dX7_solves_304 : decode cX7_solves 304 = .ok (.iload_n 2, 1) := by decide +kernel
theorem dX7_solves_305 : decode cX7_solves 305 = .ok (.imul, 1) := by decide +kernel
theorem dX7_solves_306 : decode cX7_solves 306 = .ok (.iload_n 1, 1) := by decide +kernel
theorem dX7_solves_307 : decode cX7_solves 307 = .ok (.iadd, 1) := by decide +kernel
theorem dX7_solves_308 : decode cX7_solves 308 = .ok (.iaload, 1) := by decide +kernel
theorem dX7_solves_309 : decode cX7_solves 309 = .ok (.iastore, 1) := by decide +kernel
theorem dX7_solves_310 : decode cX7_solves 310 = .ok (.iinc 2 1, 3) := by decide +kernel
theorem dX7_solves_313 : decode cX7_solves 313 = .ok (.goto (-27), 3) := by decide +kernel
theorem dX7_solves_316 : decode cX7_solves 316 = .ok (.iconst 1, 1) := by decide +kernel
theorem dX7_solves_317 : decode cX7_solves 317 = .ok (.ireturn, 1) := by decide +kernel
theorem dX7_isMended_0 : decode cX7_isMended 0 = .ok (.aload_n 0, 1) := by decide +kernel
theorem dX7_isMended_1 : decode cX7_isMended 1 = .ok (.invokevirtual 165, 3) := by decide +kernel
theorem dX7_isMended_4 : decode cX7_isMended 4 = .ok (.ifCond .eq 5, 3) := by decide +kernel
theorem dX7_isMended_7 : decode cX7_isMended 7 = .ok (.iconst 1, 1) := by decide +kernel
theorem dX7_isMended_8 : decode cX7_isMended 8 = .ok (.ireturn, 1) := by decide +kernel
theorem dX7_isMended_9 : decode cX7_isMended 9 = .ok (.aload_n 0, 1) := by decide +kernel
theorem dX7_isMended_10 : decode cX7_isMended 10 = .ok (.getfield 104, 3) := by decide +kernel
theorem dX7_isMended_13 : decode cX7_isMended 13 = .ok (.istore_n 1, 1) := by decide +kernel
theorem dX7_isMended_14 : decode cX7_isMended 14 = .ok (.iload_n 1, 1) := by decide +kernel
theorem dX7_isMended_15 : decode cX7_isMended 15 = .ok (.ifCond .le 17, 3) := by decide +kernel
theorem dX7_isMended_18 : decode cX7_isMended 18 = .ok (.aload_n 0, 1) := by decide +kernel
theorem dX7_isMended_19 : decode cX7_isMended 19 = .ok (.iload_n 1, 1) := by decide +kernel
theorem dX7_isMended_20 : decode cX7_isMended 20 = .ok (.invokevirtual 169, 3) := by decide +kernel
theorem dX7_isMended_23 : decode cX7_isMended 23 = .ok (.ifCond .ne 9, 3) := by decide +kernel
theorem dX7_isMended_26 : decode cX7_isMended 26 = .ok (.iinc 1 (-1), 3) := by decide +kernel
theorem dX7_isMended_29 : decode cX7_isMended 29 = .ok (.goto (-15), 3) := by decide +kernel
theorem dX7_isMended_32 : decode cX7_isMended 32 = .ok (.iconst 0, 1) := by decide +kernel
theorem dX7_isMended_33 : decode cX7_isMended 33 = .ok (.istore_n 2, 1) := by decide +kernel
theorem dX7_isMended_34 : decode cX7_isMended 34 = .ok (.iconst 0, 1) := by decide +kernel
theorem dX7_isMended_35 : decode cX7_isMended 35 = .ok (.istore_n 3, 1) := by decide +kernel
theorem dX7_isMended_36 : decode cX7_isMended 36 = .ok (.iload_n 3, 1) := by decide +kernel
theorem dX7_isMended_37 : decode cX7_isMended 37 = .ok (.aload_n 0, 1) := by decide +kernel
theorem dX7_isMended_38 : decode cX7_isMended 38 = .ok (.getfield 113, 3) := by decide +kernel
theorem dX7_isMended_41 : decode cX7_isMended 41 = .ok (.if_icmp .ge 105, 3) := by decide +kernel
theorem dX7_isMended_44 : decode cX7_isMended 44 = .ok (.iload_n 1, 1) := by decide +kernel
theorem dX7_isMended_45 : decode cX7_isMended 45 = .ok (.ifCond .le 101, 3) := by decide +kernel
theorem dX7_isMended_48 : decode cX7_isMended 48 = .ok (.iconst 0, 1) := by decide +kernel
theorem dX7_isMended_49 : decode cX7_isMended 49 = .ok (.istore 4, 2) := by decide +kernel
theorem dX7_isMended_51 : decode cX7_isMended 51 = .ok (.iconst 0, 1) := by decide +kernel
theorem dX7_isMended_52 : decode cX7_isMended 52 = .ok (.istore 5, 2) := by decide +kernel
theorem dX7_isMended_54 : decode cX7_isMended 54 = .ok (.iload 5, 2) := by decide +kernel
theorem dX7_isMended_56 : decode cX7_isMended 56 = .ok (.iload_n 1, 1) := by decide +kernel
theorem dX7_isMended_57 : decode cX7_isMended 57 = .ok (.if_icmp .gt 41, 3) := by decide +kernel
theorem dX7_isMended_60 : decode cX7_isMended 60 = .ok (.iload 4, 2) := by decide +kernel
theorem dX7_isMended_62 : decode cX7_isMended 62 = .ok (.aload_n 0, 1) := by decide +kernel
theorem dX7_isMended_63 : decode cX7_isMended 63 = .ok (.aload_n 0, 1) := by decide +kernel
theorem dX7_isMended_64 : decode cX7_isMended 64 = .ok (.getfield 57, 3) := by decide +kernel
theorem dX7_isMended_67 : decode cX7_isMended 67 = .ok (.iload 5, 2) := by decide +kernel
theorem dX7_isMended_69 : decode cX7_isMended 69 = .ok (.iaload, 1) := by decide +kernel
theorem dX7_isMended_70 : decode cX7_isMended 70 = .ok (.aload_n 0, 1) := by decide +kernel
theorem dX7_isMended_71 : decode cX7_isMended 71 = .ok (.getfield 7, 3) := by decide +kernel
theorem dX7_isMended_74 : decode cX7_isMended 74 = .ok (.aload_n 0, 1) := by decide +kernel
theorem dX7_isMended_75 : decode cX7_isMended 75 = .ok (.iload 5, 2) := by decide +kernel
theorem dX7_isMended_77 : decode cX7_isMended 77 = .ok (.i2l, 1) := by decide +kernel
theorem dX7_isMended_78 : decode cX7_isMended 78 = .ok (.lneg, 1) := by decide +kernel
theorem dX7_isMended_79 : decode cX7_isMended 79 = .ok (.iload_n 3, 1) := by decide +kernel
theorem dX7_isMended_80 : decode cX7_isMended 80 = .ok (.i2l, 1) := by decide +kernel
theorem dX7_isMended_81 : decode cX7_isMended 81 = .ok (.lmul, 1) := by decide +kernel
theorem dX7_isMended_82 : decode cX7_isMended 82 = .ok (.invokevirtual 76, 3) := by decide +kernel
theorem dX7_isMended_85 : decode cX7_isMended 85 = .ok (.iaload, 1) := by decide +kernel
theorem dX7_isMended_86 : decode cX7_isMended 86 = .ok (.invokevirtual 72, 3) := by decide +kernel
theorem dX7_isMended_89 : decode cX7_isMended 89 = .ok (.ixor, 1) := by decide +kernel
theorem dX7_isMended_90 : decode cX7_isMended 90 = .ok (.istore 4, 2) := by decide +kernel
theorem dX7_isMended_92 : decode cX7_isMended 92 = .ok (.iinc 5 1, 3) := by decide +kernel
theorem dX7_isMended_95 : decode cX7_isMended 95 = .ok (.goto (-41), 3) := by decide +kernel
theorem dX7_isMended_98 : decode cX7_isMended 98 = .ok (.iload 4, 2) := by decide +kernel
theorem dX7_isMended_100 : decode cX7_isMended 100 = .ok (.ifCond .ne 40, 3) := by decide +kernel
theorem dX7_isMended_103 : decode cX7_isMended 103 = .ok (.iinc 2 1, 3) := by decide +kernel
theorem dX7_isMended_106 : decode cX7_isMended 106 = .ok (.aload_n 0, 1) := by decide +kernel
theorem dX7_isMended_107 : decode cX7_isMended 107 = .ok (.getfield 45, 3) := by decide +kernel
theorem dX7_isMended_110 : decode cX7_isMended 110 = .ok (.aload_n 0, 1) := by decide +kernel
theorem dX7_isMended_111 : decode cX7_isMended 111 = .ok (.getfield 113, 3) := by decide +kernel
theorem dX7_isMended_114 : decode cX7_isMended 114 = .ok (.iconst 1, 1) := by decide +kernel
theorem dX7_isMended_115 : decode cX7_isMended 115 = .ok (.isub, 1) := by decide +kernel
theorem dX7_isMended_116 : decode cX7_isMended 116 = .ok (.iload_n 3, 1) := by decide +kernel
theorem dX7_isMended_117 : decode cX7_isMended 117 = .ok (.isub, 1) := by decide +kernel
theorem dX7_isMended_118 : decode cX7_isMended 118 = .ok (.aload_n 0, 1) := by decide +kernel
theorem dX7_isMended_119 : decode cX7_isMended 119 = .ok (.getfield 45, 3) := by decide +kernel
theorem dX7_isMended_122 : decode cX7_isMended 122 = .ok (.aload_n 0, 1) := by decide +kernel
theorem dX7_isMended_123 : decode cX7_isMended 123 = .ok (.getfield 113, 3) := by decide +kernel
theorem dX7_isMended_126 : decode cX7_isMended 126 = .ok (.iconst 1, 1) := by decide +kernel
theorem dX7_isMended_127 : decode cX7_isMended 127 = .ok (.isub, 1) := by decide +kernel
theorem dX7_isMended_128 : decode cX7_isMended 128 = .ok (.iload_n 3, 1) := by decide +kernel
theorem dX7_isMended_129 : decode cX7_isMended 129 = .ok (.isub, 1) := by decide +kernel
theorem dX7_isMended_130 : decode cX7_isMended 130 = .ok (.baload, 1) := by decide +kernel
theorem dX7_isMended_131 : decode cX7_isMended 131 = .ok (.ifCond .ne 7, 3) := by decide +kernel
theorem dX7_isMended_134 : decode cX7_isMended 134 = .ok (.iconst 1, 1) := by decide +kernel
theorem dX7_isMended_135 : decode cX7_isMended 135 = .ok (.goto 4, 3) := by decide +kernel
theorem dX7_isMended_138 : decode cX7_isMended 138 = .ok (.iconst 0, 1) := by decide +kernel
theorem dX7_isMended_139 : decode cX7_isMended 139 = .ok (.bastore, 1) := by decide +kernel
theorem dX7_isMended_140 : decode cX7_isMended 140 = .ok (.iinc 3 1, 3) := by decide +kernel
theorem dX7_isMended_143 : decode cX7_isMended 143 = .ok (.goto (-107), 3) := by decide +kernel
theorem dX7_isMended_146 : decode cX7_isMended 146 = .ok (.iload_n 1, 1) := by decide +kernel
theorem dX7_isMended_147 : decode cX7_isMended 147 = .ok (.ifCond .le 19, 3) := by decide +kernel
theorem dX7_isMended_150 : decode cX7_isMended 150 = .ok (.iload_n 2, 1) := by decide +kernel
theorem dX7_isMended_151 : decode cX7_isMended 151 = .ok (.iload_n 1, 1) := by decide +kernel
theorem dX7_isMended_152 : decode cX7_isMended 152 = .ok (.if_icmp .ne 14, 3) := by decide +kernel
theorem dX7_isMended_155 : decode cX7_isMended 155 = .ok (.aload_n 0, 1) := by decide +kernel
theorem dX7_isMended_156 : decode cX7_isMended 156 = .ok (.invokevirtual 165, 3) := by decide +kernel
theorem dX7_isMended_159 : decode cX7_isMended 159 = .ok (.ifCond .eq 7, 3) := by decide +kernel
theorem dX7_isMended_162 : decode cX7_isMended 162 = .ok (.iconst 1, 1) := by decide +kernel
theorem dX7_isMended_163 : decode cX7_isMended 163 = .ok (.goto 4, 3) := by decide +kernel
theorem dX7_isMended_166 : decode cX7_isMended 166 = .ok (.iconst 0, 1) := by decide +kernel
theorem dX7_isMended_167 : decode cX7_isMended 167 = .ok (.ireturn, 1) := by decide +kernel
theorem dX7_mend_0 : decode cX7_mend 0 = .ok (.aload_n 0, 1) := by decide +kernel
theorem dX7_mend_1 : decode cX7_mend 1 = .ok (.iload_n 1, 1) := by decide +kernel
theorem dX7_mend_2 : decode cX7_mend 2 = .ok (.invokevirtual 162, 3) := by decide +kernel
theorem dX7_mend_5 : decode cX7_mend 5 = .ok (.istore_n 2, 1) := by decide +kernel
theorem dX7_mend_6 : decode cX7_mend 6 = .ok (.sipush 2200, 3) := by decide +kernel
theorem dX7_mend_9 : decode cX7_mend 9 = .ok (.iload_n 1, 1) := by decide +kernel
theorem dX7_mend_10 : decode cX7_mend 10 = .ok (.imul, 1) := by decide +kernel
theorem dX7_mend_11 : decode cX7_mend 11 = .ok (.istore_n 3, 1) := by decide +kernel
theorem dX7_mend_12 : decode cX7_mend 12 = .ok (.iconst 0, 1) := by decide +kernel
theorem dX7_mend_13 : decode cX7_mend 13 = .ok (.istore 4, 2) := by decide +kernel
theorem dX7_mend_15 : decode cX7_mend 15 = .ok (.iload 4, 2) := by decide +kernel
theorem dX7_mend_17 : decode cX7_mend 17 = .ok (.iload_n 2, 1) := by decide +kernel
theorem dX7_mend_18 : decode cX7_mend 18 = .ok (.ifCond .ne 7, 3) := by decide +kernel
theorem dX7_mend_21 : decode cX7_mend 21 = .ok (.iconst 1, 1) := by decide +kernel
theorem dX7_mend_22 : decode cX7_mend 22 = .ok (.goto 4, 3) := by decide +kernel
theorem dX7_mend_25 : decode cX7_mend 25 = .ok (.iconst 2, 1) := by decide +kernel
theorem dX7_mend_26 : decode cX7_mend 26 = .ok (.if_icmp .ge 199, 3) := by decide +kernel
theorem dX7_mend_29 : decode cX7_mend 29 = .ok (.iload_n 2, 1) := by decide +kernel
theorem dX7_mend_30 : decode cX7_mend 30 = .ok (.iconst 2, 1) := by decide +kernel
theorem dX7_mend_31 : decode cX7_mend 31 = .ok (.aload_n 0, 1) := by decide +kernel
theorem dX7_mend_32 : decode cX7_mend 32 = .ok (.getfield 104, 3) := by decide +kernel
theorem dX7_mend_35 : decode cX7_mend 35 = .ok (.imul, 1) := by decide +kernel
theorem dX7_mend_36 : decode cX7_mend 36 = .ok (.if_icmp .gt 189, 3) := by decide +kernel
theorem dX7_mend_39 : decode cX7_mend 39 = .ok (.iconst 0, 1) := by decide +kernel
theorem dX7_mend_40 : decode cX7_mend 40 = .ok (.istore 5, 2) := by decide +kernel
theorem dX7_mend_42 : decode cX7_mend 42 = .ok (.iload 5, 2) := by decide +kernel
theorem dX7_mend_44 : decode cX7_mend 44 = .ok (.aload_n 0, 1) := by decide +kernel
theorem dX7_mend_45 : decode cX7_mend 45 = .ok (.getfield 113, 3) := by decide +kernel
theorem dX7_mend_48 : decode cX7_mend 48 = .ok (.if_icmp .ge 51, 3) := by decide +kernel
theorem dX7_mend_51 : decode cX7_mend 51 = .ok (.aload_n 0, 1) := by decide +kernel
theorem dX7_mend_52 : decode cX7_mend 52 = .ok (.getfield 45, 3) := by decide +kernel
theorem dX7_mend_55 : decode cX7_mend 55 = .ok (.iload 5, 2) := by decide +kernel
theorem dX7_mend_57 : decode cX7_mend 57 = .ok (.aload_n 0, 1) := by decide +kernel
theorem dX7_mend_58 : decode cX7_mend 58 = .ok (.getfield 30, 3) := by decide +kernel
theorem dX7_mend_61 : decode cX7_mend 61 = .ok (.iload_n 3, 1) := by decide +kernel
theorem dX7_mend_62 : decode cX7_mend 62 = .ok (.iload 5, 2) := by decide +kernel
theorem dX7_mend_64 : decode cX7_mend 64 = .ok (.iadd, 1) := by decide +kernel
theorem dX7_mend_65 : decode cX7_mend 65 = .ok (.baload, 1) := by decide +kernel
theorem dX7_mend_66 : decode cX7_mend 66 = .ok (.ifCond .eq 17, 3) := by decide +kernel
theorem dX7_mend_69 : decode cX7_mend 69 = .ok (.iload 4, 2) := by decide +kernel
theorem dX7_mend_71 : decode cX7_mend 71 = .ok (.iconst 1, 1) := by decide +kernel
theorem dX7_mend_72 : decode cX7_mend 72 = .ok (.if_icmp .ne 7, 3) := by decide +kernel
theorem dX7_mend_75 : decode cX7_mend 75 = .ok (.iconst 1, 1) := by decide +kernel
theorem dX7_mend_76 : decode cX7_mend 76 = .ok (.goto 16, 3) := by decide +kernel
theorem dX7_mend_79 : decode cX7_mend 79 = .ok (.iconst 0, 1) := by decide +kernel
theorem dX7_mend_80 : decode cX7_mend 80 = .ok (.goto 12, 3) := by decide +kernel
theorem dX7_mend_83 : decode cX7_mend 83 = .ok (.aload_n 0, 1) := by decide +kernel
theorem dX7_mend_84 : decode cX7_mend 84 = .ok (.getfield 23, 3) := by decide +kernel
theorem dX7_mend_87 : decode cX7_mend 87 = .ok (.iload_n 3, 1) := by decide +kernel
theorem dX7_mend_88 : decode cX7_mend 88 = .ok (.iload 5, 2) := by decide +kernel
theorem dX7_mend_90 : decode cX7_mend 90 = .ok (.iadd, 1) := by decide +kernel
theorem dX7_mend_91 : decode cX7_mend 91 = .ok (.baload, 1) := by decide +kernel
theorem dX7_mend_92 : decode cX7_mend 92 = .ok (.bastore, 1) := by decide +kernel
theorem dX7_mend_93 : decode cX7_mend 93 = .ok (.iinc 5 1, 3) := by decide +kernel
theorem dX7_mend_96 : decode cX7_mend 96 = .ok (.goto (-54), 3) := by decide +kernel
theorem dX7_mend_99 : decode cX7_mend 99 = .ok (.aload_n 0, 1) := by decide +kernel
theorem dX7_mend_100 : decode cX7_mend 100 = .ok (.invokevirtual 172, 3) := by decide +kernel
theorem dX7_mend_103 : decode cX7_mend 103 = .ok (.ifCond .ne 6, 3) := by decide +kernel
theorem dX7_mend_106 : decode cX7_mend 106 = .ok (.goto 113, 3) := by decide +kernel
theorem dX7_mend_109 : decode cX7_mend 109 = .ok (.iconst 0, 1) := by decide +kernel
theorem dX7_mend_110 : decode cX7_mend 110 = .ok (.istore 5, 2) := by decide +kernel
theorem dX7_mend_112 : decode cX7_mend 112 = .ok (.iconst 0, 1) := by decide +kernel
theorem dX7_mend_113 : decode cX7_mend 113 = .ok (.istore 6, 2) := by decide +kernel
theorem dX7_mend_115 : decode cX7_mend 115 = .ok (.iconst 0, 1) := by decide +kernel
theorem dX7_mend_116 : decode cX7_mend 116 = .ok (.istore 7, 2) := by decide +kernel
theorem dX7_mend_118 : decode cX7_mend 118 = .ok (.iload 7, 2) := by decide +kernel
theorem dX7_mend_120 : decode cX7_mend 120 = .ok (.aload_n 0, 1) := by decide +kernel
theorem dX7_mend_121 : decode cX7_mend 121 = .ok (.getfield 113, 3) := by decide +kernel
theorem dX7_mend_124 : decode cX7_mend 124 = .ok (.if_icmp .ge 77, 3) := by decide +kernel
theorem dX7_mend_127 : decode cX7_mend 127 = .ok (.aload_n 0, 1) := by decide +kernel
theorem dX7_mend_128 : decode cX7_mend 128 = .ok (.getfield 45, 3) := by decide +kernel
theorem dX7_mend_131 : decode cX7_mend 131 = .ok (.iload 7, 2) := by decide +kernel
theorem dX7_mend_133 : decode cX7_mend 133 = .ok (.baload, 1) := by decide +kernel
theorem dX7_mend_134 : decode cX7_mend 134 = .ok (.aload_n 0, 1) := by decide +kernel
theorem dX7_mend_135 : decode cX7_mend 135 = .ok (.getfield 23, 3) := by decide +kernel
theorem dX7_mend_138 : decode cX7_mend 138 = .ok (.iload_n 3, 1) := by decide +kernel
theorem dX7_mend_139 : decode cX7_mend 139 = .ok (.iload 7, 2) := by decide +kernel
theorem dX7_mend_141 : decode cX7_mend 141 = .ok (.iadd, 1) := by decide +kernel
theorem dX7_mend_142 : decode cX7_mend 142 = .ok (.baload, 1) := by decide +kernel
theorem dX7_mend_143 : decode cX7_mend 143 = .ok (.if_icmp .eq 7, 3) := by decide +kernel
theorem dX7_mend_146 : decode cX7_mend 146 = .ok (.iconst 1, 1) := by decide +kernel
theorem dX7_mend_147 : decode cX7_mend 147 = .ok (.goto 4, 3) := by decide +kernel
theorem dX7_mend_150 : decode cX7_mend 150 = .ok (.iconst 0, 1) := by decide +kernel
theorem dX7_mend_151 : decode cX7_mend 151 = .ok (.istore 8, 2) := by decide +kernel
theorem dX7_mend_153 : decode cX7_mend 153 = .ok (.iload 6, 2) := by decide +kernel
theorem dX7_mend_155 : decode cX7_mend 155 = .ok (.iload 8, 2) := by decide +kernel
theorem dX7_mend_157 : decode cX7_mend 157 = .ok (.ifCond .eq 7, 3) := by decide +kernel
theorem dX7_mend_160 : decode cX7_mend 160 = .ok (.iconst 1, 1) := by decide +kernel
theorem dX7_mend_161 : decode cX7_mend 161 = .ok (.goto 4, 3) := by decide +kernel
theorem dX7_mend_164 : decode cX7_mend 164 = .ok (.iconst 0, 1) := by decide +kernel
theorem dX7_mend_165 : decode cX7_mend 165 = .ok (.iadd, 1) := by decide +kernel
theorem dX7_mend_166 : decode cX7_mend 166 = .ok (.istore 6, 2) := by decide +kernel
theorem dX7_mend_168 : decode cX7_mend 168 = .ok (.iload 5, 2) := by decide +kernel
theorem dX7_mend_170 : decode cX7_mend 170 = .ok (.iload 8, 2) := by decide +kernel
theorem dX7_mend_172 : decode cX7_mend 172 = .ok (.ifCond .eq 19, 3) := by decide +kernel
theorem dX7_mend_175 : decode cX7_mend 175 = .ok (.aload_n 0, 1) := by decide +kernel
theorem dX7_mend_176 : decode cX7_mend 176 = .ok (.getfield 30, 3) := by decide +kernel
theorem dX7_mend_179 : decode cX7_mend 179 = .ok (.iload_n 3, 1) := by decide +kernel
theorem dX7_mend_180 : decode cX7_mend 180 = .ok (.iload 7, 2) := by decide +kernel
theorem dX7_mend_182 : decode cX7_mend 182 = .ok (.iadd, 1) := by decide +kernel
theorem dX7_mend_183 : decode cX7_mend 183 = .ok (.baload, 1) := by decide +kernel
theorem dX7_mend_184 : decode cX7_mend 184 = .ok (.ifCond .ne 7, 3) := by decide +kernel
theorem dX7_mend_187 : decode cX7_mend 187 = .ok (.iconst 1, 1) := by decide +kernel
theorem dX7_mend_188 : decode cX7_mend 188 = .ok (.goto 4, 3) := by decide +kernel
theorem dX7_mend_191 : decode cX7_mend 191 = .ok (.iconst 0, 1) := by decide +kernel
theorem dX7_mend_192 : decode cX7_mend 192 = .ok (.iadd, 1) := by decide +kernel
theorem dX7_mend_193 : decode cX7_mend 193 = .ok (.istore 5, 2) := by decide +kernel
theorem dX7_mend_195 : decode cX7_mend 195 = .ok (.iinc 7 1, 3) := by decide +kernel
theorem dX7_mend_198 : decode cX7_mend 198 = .ok (.goto (-80), 3) := by decide +kernel
theorem dX7_mend_201 : decode cX7_mend 201 = .ok (.iconst 2, 1) := by decide +kernel
theorem dX7_mend_202 : decode cX7_mend 202 = .ok (.iload 5, 2) := by decide +kernel
theorem dX7_mend_204 : decode cX7_mend 204 = .ok (.imul, 1) := by decide +kernel
theorem dX7_mend_205 : decode cX7_mend 205 = .ok (.iload_n 2, 1) := by decide +kernel
theorem dX7_mend_206 : decode cX7_mend 206 = .ok (.iadd, 1) := by decide +kernel
theorem dX7_mend_207 : decode cX7_mend 207 = .ok (.iconst 2, 1) := by decide +kernel
theorem dX7_mend_208 : decode cX7_mend 208 = .ok (.aload_n 0, 1) := by decide +kernel
theorem dX7_mend_209 : decode cX7_mend 209 = .ok (.getfield 104, 3) := by decide +kernel
theorem dX7_mend_212 : decode cX7_mend 212 = .ok (.imul, 1) := by decide +kernel
theorem dX7_mend_213 : decode cX7_mend 213 = .ok (.if_icmp .gt 6, 3) := by decide +kernel
theorem dX7_mend_216 : decode cX7_mend 216 = .ok (.iload 6, 2) := by decide +kernel
theorem dX7_mend_218 : decode cX7_mend 218 = .ok (.ireturn, 1) := by decide +kernel
theorem dX7_mend_219 : decode cX7_mend 219 = .ok (.iinc 4 1, 3) := by decide +kernel
theorem dX7_mend_222 : decode cX7_mend 222 = .ok (.goto (-207), 3) := by decide +kernel
theorem dX7_mend_225 : decode cX7_mend 225 = .ok (.bipush (-4), 2) := by decide +kernel
theorem dX7_mend_227 : decode cX7_mend 227 = .ok (.ireturn, 1) := by decide +kernel
theorem dX7_read_0 : decode cX7_read 0 = .ok (.aload_n 0, 1) := by decide +kernel
theorem dX7_read_1 : decode cX7_read 1 = .ok (.getfield 100, 3) := by decide +kernel
theorem dX7_read_4 : decode cX7_read 4 = .ok (.ifCond .ne 6, 3) := by decide +kernel
theorem dX7_read_7 : decode cX7_read 7 = .ok (.bipush (-3), 2) := by decide +kernel
theorem dX7_read_9 : decode cX7_read 9 = .ok (.ireturn, 1) := by decide +kernel
theorem dX7_read_10 : decode cX7_read 10 = .ok (.iload_n 1, 1) := by decide +kernel
theorem dX7_read_11 : decode cX7_read 11 = .ok (.invokestatic 142, 3) := by decide +kernel
theorem dX7_read_14 : decode cX7_read 14 = .ok (.ifCond .ne 6, 3) := by decide +kernel
theorem dX7_read_17 : decode cX7_read 17 = .ok (.bipush (-2), 2) := by decide +kernel
theorem dX7_read_19 : decode cX7_read 19 = .ok (.ireturn, 1) := by decide +kernel
theorem dX7_read_20 : decode cX7_read 20 = .ok (.aload_n 0, 1) := by decide +kernel
theorem dX7_read_21 : decode cX7_read 21 = .ok (.iload_n 1, 1) := by decide +kernel
theorem dX7_read_22 : decode cX7_read 22 = .ok (.invokevirtual 175, 3) := by decide +kernel
theorem dX7_read_25 : decode cX7_read 25 = .ok (.istore_n 2, 1) := by decide +kernel
theorem dX7_read_26 : decode cX7_read 26 = .ok (.iload_n 2, 1) := by decide +kernel
theorem dX7_read_27 : decode cX7_read 27 = .ok (.bipush (-4), 2) := by decide +kernel
theorem dX7_read_29 : decode cX7_read 29 = .ok (.if_icmp .ne 16, 3) := by decide +kernel
theorem dX7_read_32 : decode cX7_read 32 = .ok (.aload_n 0, 1) := by decide +kernel
theorem dX7_read_33 : decode cX7_read 33 = .ok (.dup, 1) := by decide +kernel
theorem dX7_read_34 : decode cX7_read 34 = .ok (.getfield 125, 3) := by decide +kernel
theorem dX7_read_37 : decode cX7_read 37 = .ok (.iconst 1, 1) := by decide +kernel
theorem dX7_read_38 : decode cX7_read 38 = .ok (.iadd, 1) := by decide +kernel
theorem dX7_read_39 : decode cX7_read 39 = .ok (.putfield 125, 3) := by decide +kernel
theorem dX7_read_42 : decode cX7_read 42 = .ok (.bipush (-4), 2) := by decide +kernel
theorem dX7_read_44 : decode cX7_read 44 = .ok (.ireturn, 1) := by decide +kernel
theorem dX7_read_45 : decode cX7_read 45 = .ok (.aload_n 0, 1) := by decide +kernel
theorem dX7_read_46 : decode cX7_read 46 = .ok (.dup, 1) := by decide +kernel
theorem dX7_read_47 : decode cX7_read 47 = .ok (.getfield 119, 3) := by decide +kernel
theorem dX7_read_50 : decode cX7_read 50 = .ok (.iload_n 2, 1) := by decide +kernel
theorem dX7_read_51 : decode cX7_read 51 = .ok (.ifCond .le 7, 3) := by decide +kernel
theorem dX7_read_54 : decode cX7_read 54 = .ok (.iconst 1, 1) := by decide +kernel
theorem dX7_read_55 : decode cX7_read 55 = .ok (.goto 4, 3) := by decide +kernel
theorem dX7_read_58 : decode cX7_read 58 = .ok (.iconst 0, 1) := by decide +kernel
theorem dX7_read_59 : decode cX7_read 59 = .ok (.iadd, 1) := by decide +kernel
theorem dX7_read_60 : decode cX7_read 60 = .ok (.putfield 119, 3) := by decide +kernel
theorem dX7_read_63 : decode cX7_read 63 = .ok (.aload_n 0, 1) := by decide +kernel
theorem dX7_read_64 : decode cX7_read 64 = .ok (.dup, 1) := by decide +kernel
theorem dX7_read_65 : decode cX7_read 65 = .ok (.getfield 122, 3) := by decide +kernel
theorem dX7_read_68 : decode cX7_read 68 = .ok (.iload_n 2, 1) := by decide +kernel
theorem dX7_read_69 : decode cX7_read 69 = .ok (.ifCond .ne 7, 3) := by decide +kernel
theorem dX7_read_72 : decode cX7_read 72 = .ok (.iconst 1, 1) := by decide +kernel
theorem dX7_read_73 : decode cX7_read 73 = .ok (.goto 4, 3) := by decide +kernel
theorem dX7_read_76 : decode cX7_read 76 = .ok (.iconst 0, 1) := by decide +kernel
theorem dX7_read_77 : decode cX7_read 77 = .ok (.iadd, 1) := by decide +kernel
theorem dX7_read_78 : decode cX7_read 78 = .ok (.putfield 122, 3) := by decide +kernel
theorem dX7_read_81 : decode cX7_read 81 = .ok (.aload_n 0, 1) := by decide +kernel
theorem dX7_read_82 : decode cX7_read 82 = .ok (.iconst 0, 1) := by decide +kernel
theorem dX7_read_83 : decode cX7_read 83 = .ok (.putfield 116, 3) := by decide +kernel
theorem dX7_read_86 : decode cX7_read 86 = .ok (.iconst 0, 1) := by decide +kernel
theorem dX7_read_87 : decode cX7_read 87 = .ok (.istore_n 3, 1) := by decide +kernel
theorem dX7_read_88 : decode cX7_read 88 = .ok (.iload_n 3, 1) := by decide +kernel
theorem dX7_read_89 : decode cX7_read 89 = .ok (.aload_n 0, 1) := by decide +kernel
theorem dX7_read_90 : decode cX7_read 90 = .ok (.getfield 107, 3) := by decide +kernel
theorem dX7_read_93 : decode cX7_read 93 = .ok (.if_icmp .ge 16, 3) := by decide +kernel
theorem dX7_read_96 : decode cX7_read 96 = .ok (.aload_n 0, 1) := by decide +kernel
theorem dX7_read_97 : decode cX7_read 97 = .ok (.getfield 19, 3) := by decide +kernel
theorem dX7_read_100 : decode cX7_read 100 = .ok (.iload_n 3, 1) := by decide +kernel
theorem dX7_read_101 : decode cX7_read 101 = .ok (.iconst 0, 1) := by decide +kernel
theorem dX7_read_102 : decode cX7_read 102 = .ok (.iastore, 1) := by decide +kernel
theorem dX7_read_103 : decode cX7_read 103 = .ok (.iinc 3 1, 3) := by decide +kernel
theorem dX7_read_106 : decode cX7_read 106 = .ok (.goto (-18), 3) := by decide +kernel
theorem dX7_read_109 : decode cX7_read 109 = .ok (.iconst 0, 1) := by decide +kernel
theorem dX7_read_110 : decode cX7_read 110 = .ok (.istore_n 3, 1) := by decide +kernel
theorem dX7_read_111 : decode cX7_read 111 = .ok (.iload_n 3, 1) := by decide +kernel
theorem dX7_read_112 : decode cX7_read 112 = .ok (.aload_n 0, 1) := by decide +kernel
theorem dX7_read_113 : decode cX7_read 113 = .ok (.getfield 113, 3) := by decide +kernel
theorem dX7_read_116 : decode cX7_read 116 = .ok (.if_icmp .ge 90, 3) := by decide +kernel
theorem dX7_read_119 : decode cX7_read 119 = .ok (.iload_n 3, 1) := by decide +kernel
theorem dX7_read_120 : decode cX7_read 120 = .ok (.bipush 8, 2) := by decide +kernel
theorem dX7_read_122 : decode cX7_read 122 = .ok (.aload_n 0, 1) := by decide +kernel
theorem dX7_read_123 : decode cX7_read 123 = .ok (.getfield 107, 3) := by decide +kernel
theorem dX7_read_126 : decode cX7_read 126 = .ok (.imul, 1) := by decide +kernel
theorem dX7_read_127 : decode cX7_read 127 = .ok (.if_icmp .ge 32, 3) := by decide +kernel
theorem dX7_read_130 : decode cX7_read 130 = .ok (.aload_n 0, 1) := by decide +kernel
theorem dX7_read_131 : decode cX7_read 131 = .ok (.getfield 45, 3) := by decide +kernel
theorem dX7_read_134 : decode cX7_read 134 = .ok (.iload_n 3, 1) := by decide +kernel
theorem dX7_read_135 : decode cX7_read 135 = .ok (.baload, 1) := by decide +kernel
theorem dX7_read_136 : decode cX7_read 136 = .ok (.ifCond .eq 23, 3) := by decide +kernel
theorem dX7_read_139 : decode cX7_read 139 = .ok (.aload_n 0, 1) := by decide +kernel
theorem dX7_read_140 : decode cX7_read 140 = .ok (.getfield 19, 3) := by decide +kernel
theorem dX7_read_143 : decode cX7_read 143 = .ok (.iload_n 3, 1) := by decide +kernel
theorem dX7_read_144 : decode cX7_read 144 = .ok (.bipush 8, 2) := by decide +kernel
theorem dX7_read_146 : decode cX7_read 146 = .ok (.idiv, 1) := by decide +kernel
theorem dX7_read_147 : decode cX7_read 147 = .ok (.dup2, 1) := by decide +kernel
theorem dX7_read_148 : decode cX7_read 148 = .ok (.iaload, 1) := by decide +kernel
theorem dX7_read_149 : decode cX7_read 149 = .ok (.sipush 128, 3) := by decide +kernel
theorem dX7_read_152 : decode cX7_read 152 = .ok (.iload_n 3, 1) := by decide +kernel
theorem dX7_read_153 : decode cX7_read 153 = .ok (.bipush 8, 2) := by decide +kernel
theorem dX7_read_155 : decode cX7_read 155 = .ok (.irem, 1) := by decide +kernel
theorem dX7_read_156 : decode cX7_read 156 = .ok (.ishr, 1) := by decide +kernel
theorem dX7_read_157 : decode cX7_read 157 = .ok (.ior, 1) := by decide +kernel
theorem dX7_read_158 : decode cX7_read 158 = .ok (.iastore, 1) := by decide +kernel
theorem dX7_read_159 : decode cX7_read 159 = .ok (.aload_n 0, 1) := by decide +kernel
theorem dX7_read_160 : decode cX7_read 160 = .ok (.getfield 45, 3) := by decide +kernel
theorem dX7_read_163 : decode cX7_read 163 = .ok (.iload_n 3, 1) := by decide +kernel
theorem dX7_read_164 : decode cX7_read 164 = .ok (.baload, 1) := by decide +kernel
theorem dX7_read_165 : decode cX7_read 165 = .ok (.aload_n 0, 1) := by decide +kernel
theorem dX7_read_166 : decode cX7_read 166 = .ok (.getfield 23, 3) := by decide +kernel
theorem dX7_read_169 : decode cX7_read 169 = .ok (.sipush 2200, 3) := by decide +kernel
theorem dX7_read_172 : decode cX7_read 172 = .ok (.iload_n 1, 1) := by decide +kernel
theorem dX7_read_173 : decode cX7_read 173 = .ok (.imul, 1) := by decide +kernel
theorem dX7_read_174 : decode cX7_read 174 = .ok (.iload_n 3, 1) := by decide +kernel
theorem dX7_read_175 : decode cX7_read 175 = .ok (.iadd, 1) := by decide +kernel
theorem dX7_read_176 : decode cX7_read 176 = .ok (.baload, 1) := by decide +kernel
theorem dX7_read_177 : decode cX7_read 177 = .ok (.if_icmp .eq 23, 3) := by decide +kernel
theorem dX7_read_180 : decode cX7_read 180 = .ok (.aload_n 0, 1) := by decide +kernel
theorem dX7_read_181 : decode cX7_read 181 = .ok (.getfield 36, 3) := by decide +kernel
theorem dX7_read_184 : decode cX7_read 184 = .ok (.aload_n 0, 1) := by decide +kernel
theorem dX7_read_185 : decode cX7_read 185 = .ok (.getfield 116, 3) := by decide +kernel
theorem dX7_read_188 : decode cX7_read 188 = .ok (.iload_n 3, 1) := by decide +kernel
theorem dX7_read_189 : decode cX7_read 189 = .ok (.iastore, 1) := by decide +kernel
theorem dX7_read_190 : decode cX7_read 190 = .ok (.aload_n 0, 1) := by decide +kernel
theorem dX7_read_191 : decode cX7_read 191 = .ok (.dup, 1) := by decide +kernel
theorem dX7_read_192 : decode cX7_read 192 = .ok (.getfield 116, 3) := by decide +kernel
theorem dX7_read_195 : decode cX7_read 195 = .ok (.iconst 1, 1) := by decide +kernel
theorem dX7_read_196 : decode cX7_read 196 = .ok (.iadd, 1) := by decide +kernel
theorem dX7_read_197 : decode cX7_read 197 = .ok (.putfield 116, 3) := by decide +kernel
theorem dX7_read_200 : decode cX7_read 200 = .ok (.iinc 3 1, 3) := by decide +kernel
theorem dX7_read_203 : decode cX7_read 203 = .ok (.goto (-92), 3) := by decide +kernel
theorem dX7_read_206 : decode cX7_read 206 = .ok (.iload_n 2, 1) := by decide +kernel
theorem dX7_read_207 : decode cX7_read 207 = .ok (.ireturn, 1) := by decide +kernel
theorem dX7_turned_0 : decode cX7_turned 0 = .ok (.iload_n 1, 1) := by decide +kernel
theorem dX7_turned_1 : decode cX7_turned 1 = .ok (.iconst 0, 1) := by decide +kernel
theorem dX7_turned_2 : decode cX7_turned 2 = .ok (.aload_n 0, 1) := by decide +kernel
theorem dX7_turned_3 : decode cX7_turned 3 = .ok (.getfield 116, 3) := by decide +kernel
theorem dX7_turned_6 : decode cX7_turned 6 = .ok (.iconst 1, 1) := by decide +kernel
theorem dX7_turned_7 : decode cX7_turned 7 = .ok (.isub, 1) := by decide +kernel
theorem dX7_turned_8 : decode cX7_turned 8 = .ok (.invokestatic 68, 3) := by decide +kernel
theorem dX7_turned_11 : decode cX7_turned 11 = .ok (.ifCond .eq 12, 3) := by decide +kernel
theorem dX7_turned_14 : decode cX7_turned 14 = .ok (.aload_n 0, 1) := by decide +kernel
theorem dX7_turned_15 : decode cX7_turned 15 = .ok (.getfield 36, 3) := by decide +kernel
theorem dX7_turned_18 : decode cX7_turned 18 = .ok (.iload_n 1, 1) := by decide +kernel
theorem dX7_turned_19 : decode cX7_turned 19 = .ok (.iaload, 1) := by decide +kernel
theorem dX7_turned_20 : decode cX7_turned 20 = .ok (.goto 4, 3) := by decide +kernel
theorem dX7_turned_23 : decode cX7_turned 23 = .ok (.iconst (-1), 1) := by decide +kernel
theorem dX7_turned_24 : decode cX7_turned 24 = .ok (.ireturn, 1) := by decide +kernel
theorem dX7_syndrome_0 : decode cX7_syndrome 0 = .ok (.aload_n 0, 1) := by decide +kernel
theorem dX7_syndrome_1 : decode cX7_syndrome 1 = .ok (.getfield 100, 3) := by decide +kernel
theorem dX7_syndrome_4 : decode cX7_syndrome 4 = .ok (.ifCond .ne 6, 3) := by decide +kernel
theorem dX7_syndrome_7 : decode cX7_syndrome 7 = .ok (.bipush (-3), 2) := by decide +kernel
theorem dX7_syndrome_9 : decode cX7_syndrome 9 = .ok (.ireturn, 1) := by decide +kernel
theorem dX7_syndrome_10 : decode cX7_syndrome 10 = .ok (.iload_n 1, 1) := by decide +kernel
theorem dX7_syndrome_11 : decode cX7_syndrome 11 = .ok (.invokestatic 142, 3) := by decide +kernel
theorem dX7_syndrome_14 : decode cX7_syndrome 14 = .ok (.ifCond .eq 17, 3) := by decide +kernel
theorem dX7_syndrome_17 : decode cX7_syndrome 17 = .ok (.iload_n 2, 1) := by decide +kernel
theorem dX7_syndrome_18 : decode cX7_syndrome 18 = .ok (.iconst 1, 1) := by decide +kernel
theorem dX7_syndrome_19 : decode cX7_syndrome 19 = .ok (.iconst 2, 1) := by decide +kernel
theorem dX7_syndrome_20 : decode cX7_syndrome 20 = .ok (.aload_n 0, 1) := by decide +kernel
theorem dX7_syndrome_21 : decode cX7_syndrome 21 = .ok (.getfield 104, 3) := by decide +kernel
theorem dX7_syndrome_24 : decode cX7_syndrome 24 = .ok (.imul, 1) := by decide +kernel
theorem dX7_syndrome_25 : decode cX7_syndrome 25 = .ok (.invokestatic 68, 3) := by decide +kernel
theorem dX7_syndrome_28 : decode cX7_syndrome 28 = .ok (.ifCond .ne 6, 3) := by decide +kernel
theorem dX7_syndrome_31 : decode cX7_syndrome 31 = .ok (.bipush (-2), 2) := by decide +kernel
theorem dX7_syndrome_33 : decode cX7_syndrome 33 = .ok (.ireturn, 1) := by decide +kernel
theorem dX7_syndrome_34 : decode cX7_syndrome 34 = .ok (.iconst 0, 1) := by decide +kernel
theorem dX7_syndrome_35 : decode cX7_syndrome 35 = .ok (.istore_n 3, 1) := by decide +kernel
theorem dX7_syndrome_36 : decode cX7_syndrome 36 = .ok (.iload_n 3, 1) := by decide +kernel
theorem dX7_syndrome_37 : decode cX7_syndrome 37 = .ok (.aload_n 0, 1) := by decide +kernel
theorem dX7_syndrome_38 : decode cX7_syndrome 38 = .ok (.getfield 113, 3) := by decide +kernel
theorem dX7_syndrome_41 : decode cX7_syndrome 41 = .ok (.if_icmp .ge 27, 3) := by decide +kernel
theorem dX7_syndrome_44 : decode cX7_syndrome 44 = .ok (.aload_n 0, 1) := by decide +kernel
theorem dX7_syndrome_45 : decode cX7_syndrome 45 = .ok (.getfield 45, 3) := by decide +kernel
theorem dX7_syndrome_48 : decode cX7_syndrome 48 = .ok (.iload_n 3, 1) := by decide +kernel
theorem dX7_syndrome_49 : decode cX7_syndrome 49 = .ok (.aload_n 0, 1) := by decide +kernel
theorem dX7_syndrome_50 : decode cX7_syndrome 50 = .ok (.getfield 23, 3) := by decide +kernel
theorem dX7_syndrome_53 : decode cX7_syndrome 53 = .ok (.sipush 2200, 3) := by decide +kernel
theorem dX7_syndrome_56 : decode cX7_syndrome 56 = .ok (.iload_n 1, 1) := by decide +kernel
theorem dX7_syndrome_57 : decode cX7_syndrome 57 = .ok (.imul, 1) := by decide +kernel
theorem dX7_syndrome_58 : decode cX7_syndrome 58 = .ok (.iload_n 3, 1) := by decide +kernel
theorem dX7_syndrome_59 : decode cX7_syndrome 59 = .ok (.iadd, 1) := by decide +kernel
theorem dX7_syndrome_60 : decode cX7_syndrome 60 = .ok (.baload, 1) := by decide +kernel
theorem dX7_syndrome_61 : decode cX7_syndrome 61 = .ok (.bastore, 1) := by decide +kernel
theorem dX7_syndrome_62 : decode cX7_syndrome 62 = .ok (.iinc 3 1, 3) := by decide +kernel
theorem dX7_syndrome_65 : decode cX7_syndrome 65 = .ok (.goto (-29), 3) := by decide +kernel
theorem dX7_syndrome_68 : decode cX7_syndrome 68 = .ok (.aload_n 0, 1) := by decide +kernel
theorem dX7_syndrome_69 : decode cX7_syndrome 69 = .ok (.invokevirtual 165, 3) := by decide +kernel
theorem dX7_syndrome_72 : decode cX7_syndrome 72 = .ok (.istore_n 3, 1) := by decide +kernel
theorem dX7_syndrome_73 : decode cX7_syndrome 73 = .ok (.aload_n 0, 1) := by decide +kernel
theorem dX7_syndrome_74 : decode cX7_syndrome 74 = .ok (.getfield 51, 3) := by decide +kernel
theorem dX7_syndrome_77 : decode cX7_syndrome 77 = .ok (.iload_n 2, 1) := by decide +kernel
theorem dX7_syndrome_78 : decode cX7_syndrome 78 = .ok (.iaload, 1) := by decide +kernel
theorem dX7_syndrome_79 : decode cX7_syndrome 79 = .ok (.ireturn, 1) := by decide +kernel
theorem dX7_copy_0 : decode cX7_copy 0 = .ok (.aload_n 0, 1) := by decide +kernel
theorem dX7_copy_1 : decode cX7_copy 1 = .ok (.getfield 100, 3) := by decide +kernel
theorem dX7_copy_4 : decode cX7_copy 4 = .ok (.ifCond .ne 6, 3) := by decide +kernel
theorem dX7_copy_7 : decode cX7_copy 7 = .ok (.bipush (-3), 2) := by decide +kernel
theorem dX7_copy_9 : decode cX7_copy 9 = .ok (.ireturn, 1) := by decide +kernel
theorem dX7_copy_10 : decode cX7_copy 10 = .ok (.iload_n 1, 1) := by decide +kernel
theorem dX7_copy_11 : decode cX7_copy 11 = .ok (.invokestatic 142, 3) := by decide +kernel
theorem dX7_copy_14 : decode cX7_copy 14 = .ok (.ifCond .eq 10, 3) := by decide +kernel
theorem dX7_copy_17 : decode cX7_copy 17 = .ok (.iload_n 2, 1) := by decide +kernel
theorem dX7_copy_18 : decode cX7_copy 18 = .ok (.invokestatic 142, 3) := by decide +kernel
theorem dX7_copy_21 : decode cX7_copy 21 = .ok (.ifCond .ne 6, 3) := by decide +kernel
theorem dX7_copy_24 : decode cX7_copy 24 = .ok (.bipush (-2), 2) := by decide +kernel
theorem dX7_copy_26 : decode cX7_copy 26 = .ok (.ireturn, 1) := by decide +kernel
theorem dX7_copy_27 : decode cX7_copy 27 = .ok (.aload_n 0, 1) := by decide +kernel
theorem dX7_copy_28 : decode cX7_copy 28 = .ok (.iload_n 1, 1) := by decide +kernel
theorem dX7_copy_29 : decode cX7_copy 29 = .ok (.invokevirtual 175, 3) := by decide +kernel
theorem dX7_copy_32 : decode cX7_copy 32 = .ok (.bipush (-4), 2) := by decide +kernel
theorem dX7_copy_34 : decode cX7_copy 34 = .ok (.if_icmp .ne 6, 3) := by decide +kernel
theorem dX7_copy_37 : decode cX7_copy 37 = .ok (.bipush (-4), 2) := by decide +kernel
theorem dX7_copy_39 : decode cX7_copy 39 = .ok (.ireturn, 1) := by decide +kernel
theorem dX7_copy_40 : decode cX7_copy 40 = .ok (.aload_n 0, 1) := by decide +kernel
theorem dX7_copy_41 : decode cX7_copy 41 = .ok (.iload_n 2, 1) := by decide +kernel
theorem dX7_copy_42 : decode cX7_copy 42 = .ok (.invokevirtual 152, 3) := by decide +kernel
theorem dX7_copy_45 : decode cX7_copy 45 = .ok (.aload_n 0, 1) := by decide +kernel
theorem dX7_copy_46 : decode cX7_copy 46 = .ok (.iload_n 2, 1) := by decide +kernel
theorem dX7_copy_47 : decode cX7_copy 47 = .ok (.invokevirtual 149, 3) := by decide +kernel
theorem dX7_copy_50 : decode cX7_copy 50 = .ok (.ireturn, 1) := by decide +kernel
theorem dX7_refresh_0 : decode cX7_refresh 0 = .ok (.aload_n 0, 1) := by decide +kernel
theorem dX7_refresh_1 : decode cX7_refresh 1 = .ok (.getfield 100, 3) := by decide +kernel
theorem dX7_refresh_4 : decode cX7_refresh 4 = .ok (.ifCond .ne 6, 3) := by decide +kernel
theorem dX7_refresh_7 : decode cX7_refresh 7 = .ok (.bipush (-3), 2) := by decide +kernel
theorem dX7_refresh_9 : decode cX7_refresh 9 = .ok (.ireturn, 1) := by decide +kernel
theorem dX7_refresh_10 : decode cX7_refresh 10 = .ok (.iload_n 1, 1) := by decide +kernel
theorem dX7_refresh_11 : decode cX7_refresh 11 = .ok (.iconst 0, 1) := by decide +kernel
theorem dX7_refresh_12 : decode cX7_refresh 12 = .ok (.bipush 64, 2) := by decide +kernel
theorem dX7_refresh_14 : decode cX7_refresh 14 = .ok (.invokestatic 68, 3) := by decide +kernel
theorem dX7_refresh_17 : decode cX7_refresh 17 = .ok (.ifCond .ne 6, 3) := by decide +kernel
theorem dX7_refresh_20 : decode cX7_refresh 20 = .ok (.bipush (-2), 2) := by decide +kernel
theorem dX7_refresh_22 : decode cX7_refresh 22 = .ok (.ireturn, 1) := by decide +kernel
theorem dX7_refresh_23 : decode cX7_refresh 23 = .ok (.iconst 0, 1) := by decide +kernel
theorem dX7_refresh_24 : decode cX7_refresh 24 = .ok (.istore_n 2, 1) := by decide +kernel
theorem dX7_refresh_25 : decode cX7_refresh 25 = .ok (.iconst 0, 1) := by decide +kernel
theorem dX7_refresh_26 : decode cX7_refresh 26 = .ok (.istore_n 3, 1) := by decide +kernel
theorem dX7_refresh_27 : decode cX7_refresh 27 = .ok (.iload_n 3, 1) := by decide +kernel
theorem dX7_refresh_28 : decode cX7_refresh 28 = .ok (.bipush 16, 2) := by decide +kernel
theorem dX7_refresh_30 : decode cX7_refresh 30 = .ok (.if_icmp .ge 44, 3) := by decide +kernel
theorem dX7_refresh_33 : decode cX7_refresh 33 = .ok (.aload_n 0, 1) := by decide +kernel
theorem dX7_refresh_34 : decode cX7_refresh 34 = .ok (.iload_n 3, 1) := by decide +kernel
theorem dX7_refresh_35 : decode cX7_refresh 35 = .ok (.invokevirtual 175, 3) := by decide +kernel
theorem dX7_refresh_38 : decode cX7_refresh 38 = .ok (.istore 4, 2) := by decide +kernel
theorem dX7_refresh_40 : decode cX7_refresh 40 = .ok (.iload 4, 2) := by decide +kernel
theorem dX7_refresh_42 : decode cX7_refresh 42 = .ok (.bipush (-4), 2) := by decide +kernel
theorem dX7_refresh_44 : decode cX7_refresh 44 = .ok (.if_icmp .eq 24, 3) := by decide +kernel
theorem dX7_refresh_47 : decode cX7_refresh 47 = .ok (.iload 4, 2) := by decide +kernel
theorem dX7_refresh_49 : decode cX7_refresh 49 = .ok (.iload_n 1, 1) := by decide +kernel
theorem dX7_refresh_50 : decode cX7_refresh 50 = .ok (.if_icmp .lt 18, 3) := by decide +kernel
theorem dX7_refresh_53 : decode cX7_refresh 53 = .ok (.aload_n 0, 1) := by decide +kernel
theorem dX7_refresh_54 : decode cX7_refresh 54 = .ok (.iload_n 3, 1) := by decide +kernel
theorem dX7_refresh_55 : decode cX7_refresh 55 = .ok (.invokevirtual 152, 3) := by decide +kernel
theorem dX7_refresh_58 : decode cX7_refresh 58 = .ok (.aload_n 0, 1) := by decide +kernel
theorem dX7_refresh_59 : decode cX7_refresh 59 = .ok (.iload_n 3, 1) := by decide +kernel
theorem dX7_refresh_60 : decode cX7_refresh 60 = .ok (.invokevirtual 149, 3) := by decide +kernel
theorem dX7_refresh_63 : decode cX7_refresh 63 = .ok (.istore 5, 2) := by decide +kernel
theorem dX7_refresh_65 : decode cX7_refresh 65 = .ok (.iinc 2 1, 3) := by decide +kernel
theorem dX7_refresh_68 : decode cX7_refresh 68 = .ok (.iinc 3 1, 3) := by decide +kernel
theorem dX7_refresh_71 : decode cX7_refresh 71 = .ok (.goto (-44), 3) := by decide +kernel
theorem dX7_refresh_74 : decode cX7_refresh 74 = .ok (.iload_n 2, 1) := by decide +kernel
theorem dX7_refresh_75 : decode cX7_refresh 75 = .ok (.ireturn, 1) := by decide +kernel
theorem dX7_countZeros_0 : decode cX7_countZeros 0 = .ok (.iconst 0, 1) := by decide +kernel
theorem dX7_countZeros_1 : decode cX7_countZeros 1 = .ok (.istore_n 2, 1) := by decide +kernel
theorem dX7_countZeros_2 : decode cX7_countZeros 2 = .ok (.iconst 0, 1) := by decide +kernel
theorem dX7_countZeros_3 : decode cX7_countZeros 3 = .ok (.istore_n 3, 1) := by decide +kernel
theorem dX7_countZeros_4 : decode cX7_countZeros 4 = .ok (.iload_n 3, 1) := by decide +kernel
theorem dX7_countZeros_5 : decode cX7_countZeros 5 = .ok (.aload_n 0, 1) := by decide +kernel
theorem dX7_countZeros_6 : decode cX7_countZeros 6 = .ok (.getfield 113, 3) := by decide +kernel
theorem dX7_countZeros_9 : decode cX7_countZeros 9 = .ok (.if_icmp .ge 32, 3) := by decide +kernel
theorem dX7_countZeros_12 : decode cX7_countZeros 12 = .ok (.iload_n 2, 1) := by decide +kernel
theorem dX7_countZeros_13 : decode cX7_countZeros 13 = .ok (.aload_n 0, 1) := by decide +kernel
theorem dX7_countZeros_14 : decode cX7_countZeros 14 = .ok (.getfield 23, 3) := by decide +kernel
theorem dX7_countZeros_17 : decode cX7_countZeros 17 = .ok (.sipush 2200, 3) := by decide +kernel
theorem dX7_countZeros_20 : decode cX7_countZeros 20 = .ok (.iload_n 1, 1) := by decide +kernel
theorem dX7_countZeros_21 : decode cX7_countZeros 21 = .ok (.imul, 1) := by decide +kernel
theorem dX7_countZeros_22 : decode cX7_countZeros 22 = .ok (.iload_n 3, 1) := by decide +kernel
theorem dX7_countZeros_23 : decode cX7_countZeros 23 = .ok (.iadd, 1) := by decide +kernel
theorem dX7_countZeros_24 : decode cX7_countZeros 24 = .ok (.baload, 1) := by decide +kernel
theorem dX7_countZeros_25 : decode cX7_countZeros 25 = .ok (.ifCond .eq 7, 3) := by decide +kernel
theorem dX7_countZeros_28 : decode cX7_countZeros 28 = .ok (.iconst 0, 1) := by decide +kernel
theorem dX7_countZeros_29 : decode cX7_countZeros 29 = .ok (.goto 4, 3) := by decide +kernel
theorem dX7_countZeros_32 : decode cX7_countZeros 32 = .ok (.iconst 1, 1) := by decide +kernel
theorem dX7_countZeros_33 : decode cX7_countZeros 33 = .ok (.iadd, 1) := by decide +kernel
theorem dX7_countZeros_34 : decode cX7_countZeros 34 = .ok (.istore_n 2, 1) := by decide +kernel
theorem dX7_countZeros_35 : decode cX7_countZeros 35 = .ok (.iinc 3 1, 3) := by decide +kernel
theorem dX7_countZeros_38 : decode cX7_countZeros 38 = .ok (.goto (-34), 3) := by decide +kernel
theorem dX7_countZeros_41 : decode cX7_countZeros 41 = .ok (.iload_n 2, 1) := by decide +kernel
theorem dX7_countZeros_42 : decode cX7_countZeros 42 = .ok (.ireturn, 1) := by decide +kernel
theorem dX7_told_0 : decode cX7_told 0 = .ok (.aload_n 0, 1) := by decide +kernel
theorem dX7_told_1 : decode cX7_told 1 = .ok (.getfield 100, 3) := by decide +kernel
theorem dX7_told_4 : decode cX7_told 4 = .ok (.ifCond .ne 6, 3) := by decide +kernel
theorem dX7_told_7 : decode cX7_told 7 = .ok (.bipush (-3), 2) := by decide +kernel
theorem dX7_told_9 : decode cX7_told 9 = .ok (.ireturn, 1) := by decide +kernel
theorem dX7_told_10 : decode cX7_told 10 = .ok (.iload_n 1, 1) := by decide +kernel
theorem dX7_told_11 : decode cX7_told 11 = .ok (.invokestatic 142, 3) := by decide +kernel
theorem dX7_told_14 : decode cX7_told 14 = .ok (.ifCond .eq 13, 3) := by decide +kernel
theorem dX7_told_17 : decode cX7_told 17 = .ok (.iload_n 2, 1) := by decide +kernel
theorem dX7_told_18 : decode cX7_told 18 = .ok (.iconst 0, 1) := by decide +kernel
theorem dX7_told_19 : decode cX7_told 19 = .ok (.bipush 19, 2) := by decide +kernel
theorem dX7_told_21 : decode cX7_told 21 = .ok (.invokestatic 68, 3) := by decide +kernel
theorem dX7_told_24 : decode cX7_told 24 = .ok (.ifCond .ne 6, 3) := by decide +kernel
theorem dX7_told_27 : decode cX7_told 27 = .ok (.bipush (-2), 2) := by decide +kernel
theorem dX7_told_29 : decode cX7_told 29 = .ok (.ireturn, 1) := by decide +kernel
theorem dX7_told_30 : decode cX7_told 30 = .ok (.iload_n 2, 1) := by decide +kernel
theorem dX7_told_31 : decode cX7_told 31 = .ok (.tableswitch 54 0 3 #[29, 36, 42, 48], 29) := by decide +kernel
theorem dX7_told_60 : decode cX7_told 60 = .ok (.aload_n 0, 1) := by decide +kernel
theorem dX7_told_61 : decode cX7_told 61 = .ok (.getfield 33, 3) := by decide +kernel
theorem dX7_told_64 : decode cX7_told 64 = .ok (.iload_n 1, 1) := by decide +kernel
theorem dX7_told_65 : decode cX7_told 65 = .ok (.iaload, 1) := by decide +kernel
theorem dX7_told_66 : decode cX7_told 66 = .ok (.ireturn, 1) := by decide +kernel
theorem dX7_told_67 : decode cX7_told 67 = .ok (.aload_n 0, 1) := by decide +kernel
theorem dX7_told_68 : decode cX7_told 68 = .ok (.iload_n 1, 1) := by decide +kernel
theorem dX7_told_69 : decode cX7_told 69 = .ok (.invokevirtual 162, 3) := by decide +kernel
theorem dX7_told_72 : decode cX7_told 72 = .ok (.ireturn, 1) := by decide +kernel
theorem dX7_told_73 : decode cX7_told 73 = .ok (.aload_n 0, 1) := by decide +kernel
theorem dX7_told_74 : decode cX7_told 74 = .ok (.iload_n 1, 1) := by decide +kernel
theorem dX7_told_75 : decode cX7_told 75 = .ok (.invokevirtual 159, 3) := by decide +kernel
theorem dX7_told_78 : decode cX7_told 78 = .ok (.ireturn, 1) := by decide +kernel
theorem dX7_told_79 : decode cX7_told 79 = .ok (.aload_n 0, 1) := by decide +kernel
theorem dX7_told_80 : decode cX7_told 80 = .ok (.iload_n 1, 1) := by decide +kernel
theorem dX7_told_81 : decode cX7_told 81 = .ok (.invokevirtual 178, 3) := by decide +kernel
theorem dX7_told_84 : decode cX7_told 84 = .ok (.ireturn, 1) := by decide +kernel
theorem dX7_told_85 : decode cX7_told 85 = .ok (.iload_n 1, 1) := by decide +kernel
theorem dX7_told_86 : decode cX7_told 86 = .ok (.iload_n 2, 1) := by decide +kernel
theorem dX7_told_87 : decode cX7_told 87 = .ok (.iadd, 1) := by decide +kernel
theorem dX7_told_88 : decode cX7_told 88 = .ok (.iconst 4, 1) := by decide +kernel
theorem dX7_told_89 : decode cX7_told 89 = .ok (.isub, 1) := by decide +kernel
theorem dX7_told_90 : decode cX7_told 90 = .ok (.bipush 16, 2) := by decide +kernel
theorem dX7_told_92 : decode cX7_told 92 = .ok (.irem, 1) := by decide +kernel
theorem dX7_told_93 : decode cX7_told 93 = .ok (.istore_n 3, 1) := by decide +kernel
theorem dX7_told_94 : decode cX7_told 94 = .ok (.iconst 0, 1) := by decide +kernel
theorem dX7_told_95 : decode cX7_told 95 = .ok (.istore 4, 2) := by decide +kernel
theorem dX7_told_97 : decode cX7_told 97 = .ok (.iconst 0, 1) := by decide +kernel
theorem dX7_told_98 : decode cX7_told 98 = .ok (.istore 5, 2) := by decide +kernel
theorem dX7_told_100 : decode cX7_told 100 = .ok (.iload 5, 2) := by decide +kernel
theorem dX7_told_102 : decode cX7_told 102 = .ok (.aload_n 0, 1) := by decide +kernel
theorem dX7_told_103 : decode cX7_told 103 = .ok (.getfield 113, 3) := by decide +kernel
theorem dX7_told_106 : decode cX7_told 106 = .ok (.if_icmp .ge 48, 3) := by decide +kernel
theorem dX7_told_109 : decode cX7_told 109 = .ok (.iload 4, 2) := by decide +kernel
theorem dX7_told_111 : decode cX7_told 111 = .ok (.aload_n 0, 1) := by decide +kernel
theorem dX7_told_112 : decode cX7_told 112 = .ok (.getfield 23, 3) := by decide +kernel
theorem dX7_told_115 : decode cX7_told 115 = .ok (.sipush 2200, 3) := by decide +kernel
theorem dX7_told_118 : decode cX7_told 118 = .ok (.iload_n 1, 1) := by decide +kernel
theorem dX7_told_119 : decode cX7_told 119 = .ok (.imul, 1) := by decide +kernel
theorem dX7_told_120 : decode cX7_told 120 = .ok (.iload 5, 2) := by decide +kernel
theorem dX7_told_122 : decode cX7_told 122 = .ok (.iadd, 1) := by decide +kernel
theorem dX7_told_123 : decode cX7_told 123 = .ok (.baload, 1) := by decide +kernel
theorem dX7_told_124 : decode cX7_told 124 = .ok (.aload_n 0, 1) := by decide +kernel
theorem dX7_told_125 : decode cX7_told 125 = .ok (.getfield 23, 3) := by decide +kernel
theorem dX7_told_128 : decode cX7_told 128 = .ok (.sipush 2200, 3) := by decide +kernel
theorem dX7_told_131 : decode cX7_told 131 = .ok (.iload_n 3, 1) := by decide +kernel
theorem dX7_told_132 : decode cX7_told 132 = .ok (.imul, 1) := by decide +kernel
theorem dX7_told_133 : decode cX7_told 133 = .ok (.iload 5, 2) := by decide +kernel
theorem dX7_told_135 : decode cX7_told 135 = .ok (.iadd, 1) := by decide +kernel
theorem dX7_told_136 : decode cX7_told 136 = .ok (.baload, 1) := by decide +kernel
theorem dX7_told_137 : decode cX7_told 137 = .ok (.if_icmp .eq 7, 3) := by decide +kernel
theorem dX7_told_140 : decode cX7_told 140 = .ok (.iconst 1, 1) := by decide +kernel
theorem dX7_told_141 : decode cX7_told 141 = .ok (.goto 4, 3) := by decide +kernel
theorem dX7_told_144 : decode cX7_told 144 = .ok (.iconst 0, 1) := by decide +kernel
theorem dX7_told_145 : decode cX7_told 145 = .ok (.iadd, 1) := by decide +kernel
theorem dX7_told_146 : decode cX7_told 146 = .ok (.istore 4, 2) := by decide +kernel
theorem dX7_told_148 : decode cX7_told 148 = .ok (.iinc 5 1, 3) := by decide +kernel
theorem dX7_told_151 : decode cX7_told 151 = .ok (.goto (-51), 3) := by decide +kernel
theorem dX7_told_154 : decode cX7_told 154 = .ok (.iload 4, 2) := by decide +kernel
theorem dX7_told_156 : decode cX7_told 156 = .ok (.ireturn, 1) := by decide +kernel
theorem dX7_about_0 : decode cX7_about 0 = .ok (.aload_n 0, 1) := by decide +kernel
theorem dX7_about_1 : decode cX7_about 1 = .ok (.getfield 100, 3) := by decide +kernel
theorem dX7_about_4 : decode cX7_about 4 = .ok (.ifCond .ne 6, 3) := by decide +kernel
theorem dX7_about_7 : decode cX7_about 7 = .ok (.bipush (-3), 2) := by decide +kernel
theorem dX7_about_9 : decode cX7_about 9 = .ok (.ireturn, 1) := by decide +kernel
theorem dX7_about_10 : decode cX7_about 10 = .ok (.iload_n 1, 1) := by decide +kernel
theorem dX7_about_11 : decode cX7_about 11 = .ok (.tableswitch 85 0 7 #[45, 50, 55, 60, 65, 70, 75, 80], 45) := by decide +kernel
theorem dX7_about_56 : decode cX7_about 56 = .ok (.aload_n 0, 1) := by decide +kernel
theorem dX7_about_57 : decode cX7_about 57 = .ok (.getfield 86, 3) := by decide +kernel
theorem dX7_about_60 : decode cX7_about 60 = .ok (.ireturn, 1) := by decide +kernel
theorem dX7_about_61 : decode cX7_about 61 = .ok (.aload_n 0, 1) := by decide +kernel
theorem dX7_about_62 : decode cX7_about 62 = .ok (.getfield 104, 3) := by decide +kernel
theorem dX7_about_65 : decode cX7_about 65 = .ok (.ireturn, 1) := by decide +kernel
theorem dX7_about_66 : decode cX7_about 66 = .ok (.aload_n 0, 1) := by decide +kernel
theorem dX7_about_67 : decode cX7_about 67 = .ok (.getfield 107, 3) := by decide +kernel
theorem dX7_about_70 : decode cX7_about 70 = .ok (.ireturn, 1) := by decide +kernel
theorem dX7_about_71 : decode cX7_about 71 = .ok (.aload_n 0, 1) := by decide +kernel
theorem dX7_about_72 : decode cX7_about 72 = .ok (.getfield 110, 3) := by decide +kernel
theorem dX7_about_75 : decode cX7_about 75 = .ok (.ireturn, 1) := by decide +kernel
theorem dX7_about_76 : decode cX7_about 76 = .ok (.aload_n 0, 1) := by decide +kernel
theorem dX7_about_77 : decode cX7_about 77 = .ok (.getfield 113, 3) := by decide +kernel
theorem dX7_about_80 : decode cX7_about 80 = .ok (.ireturn, 1) := by decide +kernel
theorem dX7_about_81 : decode cX7_about 81 = .ok (.aload_n 0, 1) := by decide +kernel
theorem dX7_about_82 : decode cX7_about 82 = .ok (.getfield 119, 3) := by decide +kernel
theorem dX7_about_85 : decode cX7_about 85 = .ok (.ireturn, 1) := by decide +kernel
theorem dX7_about_86 : decode cX7_about 86 = .ok (.aload_n 0, 1) := by decide +kernel
theorem dX7_about_87 : decode cX7_about 87 = .ok (.getfield 122, 3) := by decide +kernel
theorem dX7_about_90 : decode cX7_about 90 = .ok (.ireturn, 1) := by decide +kernel
theorem dX7_about_91 : decode cX7_about 91 = .ok (.aload_n 0, 1) := by decide +kernel
theorem dX7_about_92 : decode cX7_about 92 = .ok (.getfield 125, 3) := by decide +kernel
theorem dX7_about_95 : decode cX7_about 95 = .ok (.ireturn, 1) := by decide +kernel
theorem dX7_about_96 : decode cX7_about 96 = .ok (.bipush (-2), 2) := by decide +kernel
theorem dX7_about_98 : decode cX7_about 98 = .ok (.ireturn, 1) := by decide +kernel
end
section
theorem dL_law_0 : decode cL_law 0 = .ok (.new 7, 3) := by decide +kernel
theorem dL_law_3 : decode cL_law 3 = .ok (.dup, 1) := by decide +kernel
theorem dL_law_4 : decode cL_law 4 = .ok (.invokespecial 9, 3) := by decide +kernel
theorem dL_law_7 : decode cL_law 7 = .ok (.astore_n 1, 1) := by decide +kernel
theorem dL_law_8 : decode cL_law 8 = .ok (.new 10, 3) := by decide +kernel
theorem dL_law_11 : decode cL_law 11 = .ok (.dup, 1) := by decide +kernel
theorem dL_law_12 : decode cL_law 12 = .ok (.invokespecial 12, 3) := by decide +kernel
theorem dL_law_15 : decode cL_law 15 = .ok (.astore_n 2, 1) := by decide +kernel
theorem dL_law_16 : decode cL_law 16 = .ok (.iconst 0, 1) := by decide +kernel
theorem dL_law_17 : decode cL_law 17 = .ok (.istore_n 3, 1) := by decide +kernel
theorem dL_law_18 : decode cL_law 18 = .ok (.iload_n 3, 1) := by decide +kernel
theorem dL_law_19 : decode cL_law 19 = .ok (.aload_n 0, 1) := by decide +kernel
theorem dL_law_20 : decode cL_law 20 = .ok (.arraylength, 1) := by decide +kernel
theorem dL_law_21 : decode cL_law 21 = .ok (.iconst 4, 1) := by decide +kernel
theorem dL_law_22 : decode cL_law 22 = .ok (.isub, 1) := by decide +kernel
theorem dL_law_23 : decode cL_law 23 = .ok (.if_icmp .gt 865, 3) := by decide +kernel
theorem dL_law_26 : decode cL_law 26 = .ok (.aload_n 0, 1) := by decide +kernel
theorem dL_law_27 : decode cL_law 27 = .ok (.iload_n 3, 1) := by decide +kernel
theorem dL_law_28 : decode cL_law 28 = .ok (.iaload, 1) := by decide +kernel
theorem dL_law_29 : decode cL_law 29 = .ok (.bipush 31, 2) := by decide +kernel
theorem dL_law_31 : decode cL_law 31 = .ok (.iand, 1) := by decide +kernel
theorem dL_law_32 : decode cL_law 32 = .ok (.tableswitch 850 0 23 #[112, 155, 188, 211, 234, 257, 280, 303, 336, 399, 422, 445, 468, 491, 524, 567, 626, 659, 682, 705, 738, 771, 794, 827], 112) := by decide +kernel
theorem dL_law_144 : decode cL_law 144 = .ok (.aload_n 1, 1) := by decide +kernel
theorem dL_law_145 : decode cL_law 145 = .ok (.aload_n 0, 1) := by decide +kernel
theorem dL_law_146 : decode cL_law 146 = .ok (.iload_n 3, 1) := by decide +kernel
theorem dL_law_147 : decode cL_law 147 = .ok (.iconst 1, 1) := by decide +kernel
theorem dL_law_148 : decode cL_law 148 = .ok (.iadd, 1) := by decide +kernel
theorem dL_law_149 : decode cL_law 149 = .ok (.iaload, 1) := by decide +kernel
theorem dL_law_150 : decode cL_law 150 = .ok (.aload_n 0, 1) := by decide +kernel
theorem dL_law_151 : decode cL_law 151 = .ok (.iload_n 3, 1) := by decide +kernel
theorem dL_law_152 : decode cL_law 152 = .ok (.iconst 2, 1) := by decide +kernel
theorem dL_law_153 : decode cL_law 153 = .ok (.iadd, 1) := by decide +kernel
theorem dL_law_154 : decode cL_law 154 = .ok (.iaload, 1) := by decide +kernel
theorem dL_law_155 : decode cL_law 155 = .ok (.aload_n 0, 1) := by decide +kernel
theorem dL_law_156 : decode cL_law 156 = .ok (.iload_n 3, 1) := by decide +kernel
theorem dL_law_157 : decode cL_law 157 = .ok (.iconst 3, 1) := by decide +kernel
theorem dL_law_158 : decode cL_law 158 = .ok (.iadd, 1) := by decide +kernel
theorem dL_law_159 : decode cL_law 159 = .ok (.iaload, 1) := by decide +kernel
theorem dL_law_160 : decode cL_law 160 = .ok (.invokevirtual 13, 3) := by decide +kernel
theorem dL_law_163 : decode cL_law 163 = .ok (.aload_n 2, 1) := by decide +kernel
theorem dL_law_164 : decode cL_law 164 = .ok (.aload_n 0, 1) := by decide +kernel
theorem dL_law_165 : decode cL_law 165 = .ok (.iload_n 3, 1) := by decide +kernel
theorem dL_law_166 : decode cL_law 166 = .ok (.iconst 1, 1) := by decide +kernel
theorem dL_law_167 : decode cL_law 167 = .ok (.iadd, 1) := by decide +kernel
theorem dL_law_168 : decode cL_law 168 = .ok (.iaload, 1) := by decide +kernel
theorem dL_law_169 : decode cL_law 169 = .ok (.aload_n 0, 1) := by decide +kernel
theorem dL_law_170 : decode cL_law 170 = .ok (.iload_n 3, 1) := by decide +kernel
theorem dL_law_171 : decode cL_law 171 = .ok (.iconst 2, 1) := by decide +kernel
theorem dL_law_172 : decode cL_law 172 = .ok (.iadd, 1) := by decide +kernel
theorem dL_law_173 : decode cL_law 173 = .ok (.iaload, 1) := by decide +kernel
theorem dL_law_174 : decode cL_law 174 = .ok (.aload_n 0, 1) := by decide +kernel
theorem dL_law_175 : decode cL_law 175 = .ok (.iload_n 3, 1) := by decide +kernel
theorem dL_law_176 : decode cL_law 176 = .ok (.iconst 3, 1) := by decide +kernel
theorem dL_law_177 : decode cL_law 177 = .ok (.iadd, 1) := by decide +kernel
theorem dL_law_178 : decode cL_law 178 = .ok (.iaload, 1) := by decide +kernel
theorem dL_law_179 : decode cL_law 179 = .ok (.invokevirtual 17, 3) := by decide +kernel
theorem dL_law_182 : decode cL_law 182 = .ok (.if_icmp .eq 700, 3) := by decide +kernel
theorem dL_law_185 : decode cL_law 185 = .ok (.iconst 0, 1) := by decide +kernel
theorem dL_law_186 : decode cL_law 186 = .ok (.ireturn, 1) := by decide +kernel
theorem dL_law_187 : decode cL_law 187 = .ok (.aload_n 1, 1) := by decide +kernel
theorem dL_law_188 : decode cL_law 188 = .ok (.aload_n 0, 1) := by decide +kernel
theorem dL_law_189 : decode cL_law 189 = .ok (.iload_n 3, 1) := by decide +kernel
theorem dL_law_190 : decode cL_law 190 = .ok (.iconst 1, 1) := by decide +kernel
theorem dL_law_191 : decode cL_law 191 = .ok (.iadd, 1) := by decide +kernel
theorem dL_law_192 : decode cL_law 192 = .ok (.iaload, 1) := by decide +kernel
theorem dL_law_193 : decode cL_law 193 = .ok (.aload_n 0, 1) := by decide +kernel
theorem dL_law_194 : decode cL_law 194 = .ok (.iload_n 3, 1) := by decide +kernel
theorem dL_law_195 : decode cL_law 195 = .ok (.iconst 2, 1) := by decide +kernel
theorem dL_law_196 : decode cL_law 196 = .ok (.iadd, 1) := by decide +kernel
theorem dL_law_197 : decode cL_law 197 = .ok (.iaload, 1) := by decide +kernel
theorem dL_law_198 : decode cL_law 198 = .ok (.invokevirtual 18, 3) := by decide +kernel
theorem dL_law_201 : decode cL_law 201 = .ok (.aload_n 2, 1) := by decide +kernel
theorem dL_law_202 : decode cL_law 202 = .ok (.aload_n 0, 1) := by decide +kernel
theorem dL_law_203 : decode cL_law 203 = .ok (.iload_n 3, 1) := by decide +kernel
theorem dL_law_204 : decode cL_law 204 = .ok (.iconst 1, 1) := by decide +kernel
theorem dL_law_205 : decode cL_law 205 = .ok (.iadd, 1) := by decide +kernel
theorem dL_law_206 : decode cL_law 206 = .ok (.iaload, 1) := by decide +kernel
theorem dL_law_207 : decode cL_law 207 = .ok (.aload_n 0, 1) := by decide +kernel
theorem dL_law_208 : decode cL_law 208 = .ok (.iload_n 3, 1) := by decide +kernel
theorem dL_law_209 : decode cL_law 209 = .ok (.iconst 2, 1) := by decide +kernel
theorem dL_law_210 : decode cL_law 210 = .ok (.iadd, 1) := by decide +kernel
theorem dL_law_211 : decode cL_law 211 = .ok (.iaload, 1) := by decide +kernel
theorem dL_law_212 : decode cL_law 212 = .ok (.invokevirtual 22, 3) := by decide +kernel
theorem dL_law_215 : decode cL_law 215 = .ok (.if_icmp .eq 667, 3) := by decide +kernel
theorem dL_law_218 : decode cL_law 218 = .ok (.iconst 0, 1) := by decide +kernel
theorem dL_law_219 : decode cL_law 219 = .ok (.ireturn, 1) := by decide +kernel
theorem dL_law_220 : decode cL_law 220 = .ok (.aload_n 1, 1) := by decide +kernel
theorem dL_law_221 : decode cL_law 221 = .ok (.aload_n 0, 1) := by decide +kernel
theorem dL_law_222 : decode cL_law 222 = .ok (.iload_n 3, 1) := by decide +kernel
theorem dL_law_223 : decode cL_law 223 = .ok (.iconst 1, 1) := by decide +kernel
theorem dL_law_224 : decode cL_law 224 = .ok (.iadd, 1) := by decide +kernel
theorem dL_law_225 : decode cL_law 225 = .ok (.iaload, 1) := by decide +kernel
theorem dL_law_226 : decode cL_law 226 = .ok (.invokevirtual 23, 3) := by decide +kernel
theorem dL_law_229 : decode cL_law 229 = .ok (.aload_n 2, 1) := by decide +kernel
theorem dL_law_230 : decode cL_law 230 = .ok (.aload_n 0, 1) := by decide +kernel
theorem dL_law_231 : decode cL_law 231 = .ok (.iload_n 3, 1) := by decide +kernel
theorem dL_law_232 : decode cL_law 232 = .ok (.iconst 1, 1) := by decide +kernel
theorem dL_law_233 : decode cL_law 233 = .ok (.iadd, 1) := by decide +kernel
theorem dL_law_234 : decode cL_law 234 = .ok (.iaload, 1) := by decide +kernel
theorem dL_law_235 : decode cL_law 235 = .ok (.invokevirtual 27, 3) := by decide +kernel
theorem dL_law_238 : decode cL_law 238 = .ok (.if_icmp .eq 644, 3) := by decide +kernel
theorem dL_law_241 : decode cL_law 241 = .ok (.iconst 0, 1) := by decide +kernel
theorem dL_law_242 : decode cL_law 242 = .ok (.ireturn, 1) := by decide +kernel
theorem dL_law_243 : decode cL_law 243 = .ok (.aload_n 1, 1) := by decide +kernel
theorem dL_law_244 : decode cL_law 244 = .ok (.aload_n 0, 1) := by decide +kernel
theorem dL_law_245 : decode cL_law 245 = .ok (.iload_n 3, 1) := by decide +kernel
theorem dL_law_246 : decode cL_law 246 = .ok (.iconst 1, 1) := by decide +kernel
theorem dL_law_247 : decode cL_law 247 = .ok (.iadd, 1) := by decide +kernel
theorem dL_law_248 : decode cL_law 248 = .ok (.iaload, 1) := by decide +kernel
theorem dL_law_249 : decode cL_law 249 = .ok (.invokevirtual 28, 3) := by decide +kernel
theorem dL_law_252 : decode cL_law 252 = .ok (.aload_n 2, 1) := by decide +kernel
theorem dL_law_253 : decode cL_law 253 = .ok (.aload_n 0, 1) := by decide +kernel
theorem dL_law_254 : decode cL_law 254 = .ok (.iload_n 3, 1) := by decide +kernel
theorem dL_law_255 : decode cL_law 255 = .ok (.iconst 1, 1) := by decide +kernel
theorem dL_law_256 : decode cL_law 256 = .ok (.iadd, 1) := by decide +kernel
theorem dL_law_257 : decode cL_law 257 = .ok (.iaload, 1) := by decide +kernel
theorem dL_law_258 : decode cL_law 258 = .ok (.invokevirtual 31, 3) := by decide +kernel
theorem dL_law_261 : decode cL_law 261 = .ok (.if_icmp .eq 621, 3) := by decide +kernel
theorem dL_law_264 : decode cL_law 264 = .ok (.iconst 0, 1) := by decide +kernel
theorem dL_law_265 : decode cL_law 265 = .ok (.ireturn, 1) := by decide +kernel
theorem dL_law_266 : decode cL_law 266 = .ok (.aload_n 1, 1) := by decide +kernel
theorem dL_law_267 : decode cL_law 267 = .ok (.aload_n 0, 1) := by decide +kernel
theorem dL_law_268 : decode cL_law 268 = .ok (.iload_n 3, 1) := by decide +kernel
theorem dL_law_269 : decode cL_law 269 = .ok (.iconst 1, 1) := by decide +kernel
theorem dL_law_270 : decode cL_law 270 = .ok (.iadd, 1) := by decide +kernel
theorem dL_law_271 : decode cL_law 271 = .ok (.iaload, 1) := by decide +kernel
theorem dL_law_272 : decode cL_law 272 = .ok (.invokevirtual 32, 3) := by decide +kernel
theorem dL_law_275 : decode cL_law 275 = .ok (.aload_n 2, 1) := by decide +kernel
theorem dL_law_276 : decode cL_law 276 = .ok (.aload_n 0, 1) := by decide +kernel
theorem dL_law_277 : decode cL_law 277 = .ok (.iload_n 3, 1) := by decide +kernel
theorem dL_law_278 : decode cL_law 278 = .ok (.iconst 1, 1) := by decide +kernel
theorem dL_law_279 : decode cL_law 279 = .ok (.iadd, 1) := by decide +kernel
theorem dL_law_280 : decode cL_law 280 = .ok (.iaload, 1) := by decide +kernel
theorem dL_law_281 : decode cL_law 281 = .ok (.invokevirtual 35, 3) := by decide +kernel
theorem dL_law_284 : decode cL_law 284 = .ok (.if_icmp .eq 598, 3) := by decide +kernel
theorem dL_law_287 : decode cL_law 287 = .ok (.iconst 0, 1) := by decide +kernel
theorem dL_law_288 : decode cL_law 288 = .ok (.ireturn, 1) := by decide +kernel
theorem dL_law_289 : decode cL_law 289 = .ok (.aload_n 1, 1) := by decide +kernel
theorem dL_law_290 : decode cL_law 290 = .ok (.aload_n 0, 1) := by decide +kernel
theorem dL_law_291 : decode cL_law 291 = .ok (.iload_n 3, 1) := by decide +kernel
theorem dL_law_292 : decode cL_law 292 = .ok (.iconst 1, 1) := by decide +kernel
theorem dL_law_293 : decode cL_law 293 = .ok (.iadd, 1) := by decide +kernel
theorem dL_law_294 : decode cL_law 294 = .ok (.iaload, 1) := by decide +kernel
theorem dL_law_295 : decode cL_law 295 = .ok (.invokevirtual 36, 3) := by decide +kernel
theorem dL_law_298 : decode cL_law 298 = .ok (.aload_n 2, 1) := by decide +kernel
theorem dL_law_299 : decode cL_law 299 = .ok (.aload_n 0, 1) := by decide +kernel
theorem dL_law_300 : decode cL_law 300 = .ok (.iload_n 3, 1) := by decide +kernel
theorem dL_law_301 : decode cL_law 301 = .ok (.iconst 1, 1) := by decide +kernel
theorem dL_law_302 : decode cL_law 302 = .ok (.iadd, 1) := by decide +kernel
theorem dL_law_303 : decode cL_law 303 = .ok (.iaload, 1) := by decide +kernel
theorem dL_law_304 : decode cL_law 304 = .ok (.invokevirtual 39, 3) := by decide +kernel
theorem dL_law_307 : decode cL_law 307 = .ok (.if_icmp .eq 575, 3) := by decide +kernel
theorem dL_law_310 : decode cL_law 310 = .ok (.iconst 0, 1) := by decide +kernel
theorem dL_law_311 : decode cL_law 311 = .ok (.ireturn, 1) := by decide +kernel
theorem dL_law_312 : decode cL_law 312 = .ok (.aload_n 1, 1) := by decide +kernel
theorem dL_law_313 : decode cL_law 313 = .ok (.aload_n 0, 1) := by decide +kernel
theorem dL_law_314 : decode cL_law 314 = .ok (.iload_n 3, 1) := by decide +kernel
theorem dL_law_315 : decode cL_law 315 = .ok (.iconst 1, 1) := by decide +kernel
theorem dL_law_316 : decode cL_law 316 = .ok (.iadd, 1) := by decide +kernel
theorem dL_law_317 : decode cL_law 317 = .ok (.iaload, 1) := by decide +kernel
theorem dL_law_318 : decode cL_law 318 = .ok (.invokevirtual 40, 3) := by decide +kernel
theorem dL_law_321 : decode cL_law 321 = .ok (.aload_n 2, 1) := by decide +kernel
theorem dL_law_322 : decode cL_law 322 = .ok (.aload_n 0, 1) := by decide +kernel
theorem dL_law_323 : decode cL_law 323 = .ok (.iload_n 3, 1) := by decide +kernel
theorem dL_law_324 : decode cL_law 324 = .ok (.iconst 1, 1) := by decide +kernel
theorem dL_law_325 : decode cL_law 325 = .ok (.iadd, 1) := by decide +kernel
theorem dL_law_326 : decode cL_law 326 = .ok (.iaload, 1) := by decide +kernel
theorem dL_law_327 : decode cL_law 327 = .ok (.invokevirtual 43, 3) := by decide +kernel
theorem dL_law_330 : decode cL_law 330 = .ok (.if_icmp .eq 552, 3) := by decide +kernel
theorem dL_law_333 : decode cL_law 333 = .ok (.iconst 0, 1) := by decide +kernel
theorem dL_law_334 : decode cL_law 334 = .ok (.ireturn, 1) := by decide +kernel
theorem dL_law_335 : decode cL_law 335 = .ok (.aload_n 1, 1) := by decide +kernel
theorem dL_law_336 : decode cL_law 336 = .ok (.aload_n 0, 1) := by decide +kernel
theorem dL_law_337 : decode cL_law 337 = .ok (.iload_n 3, 1) := by decide +kernel
theorem dL_law_338 : decode cL_law 338 = .ok (.iconst 1, 1) := by decide +kernel
theorem dL_law_339 : decode cL_law 339 = .ok (.iadd, 1) := by decide +kernel
theorem dL_law_340 : decode cL_law 340 = .ok (.iaload, 1) := by decide +kernel
theorem dL_law_341 : decode cL_law 341 = .ok (.aload_n 0, 1) := by decide +kernel
theorem dL_law_342 : decode cL_law 342 = .ok (.iload_n 3, 1) := by decide +kernel
theorem dL_law_343 : decode cL_law 343 = .ok (.iconst 2, 1) := by decide +kernel
theorem dL_law_344 : decode cL_law 344 = .ok (.iadd, 1) := by decide +kernel
theorem dL_law_345 : decode cL_law 345 = .ok (.iaload, 1) := by decide +kernel
theorem dL_law_346 : decode cL_law 346 = .ok (.invokevirtual 44, 3) := by decide +kernel
theorem dL_law_349 : decode cL_law 349 = .ok (.aload_n 2, 1) := by decide +kernel
theorem dL_law_350 : decode cL_law 350 = .ok (.aload_n 0, 1) := by decide +kernel
theorem dL_law_351 : decode cL_law 351 = .ok (.iload_n 3, 1) := by decide +kernel
theorem dL_law_352 : decode cL_law 352 = .ok (.iconst 1, 1) := by decide +kernel
theorem dL_law_353 : decode cL_law 353 = .ok (.iadd, 1) := by decide +kernel
theorem dL_law_354 : decode cL_law 354 = .ok (.iaload, 1) := by decide +kernel
theorem dL_law_355 : decode cL_law 355 = .ok (.aload_n 0, 1) := by decide +kernel
theorem dL_law_356 : decode cL_law 356 = .ok (.iload_n 3, 1) := by decide +kernel
theorem dL_law_357 : decode cL_law 357 = .ok (.iconst 2, 1) := by decide +kernel
theorem dL_law_358 : decode cL_law 358 = .ok (.iadd, 1) := by decide +kernel
theorem dL_law_359 : decode cL_law 359 = .ok (.iaload, 1) := by decide +kernel
theorem dL_law_360 : decode cL_law 360 = .ok (.invokevirtual 47, 3) := by decide +kernel
theorem dL_law_363 : decode cL_law 363 = .ok (.if_icmp .eq 519, 3) := by decide +kernel
theorem dL_law_366 : decode cL_law 366 = .ok (.iconst 0, 1) := by decide +kernel
theorem dL_law_367 : decode cL_law 367 = .ok (.ireturn, 1) := by decide +kernel
theorem dL_law_368 : decode cL_law 368 = .ok (.aload_n 1, 1) := by decide +kernel
theorem dL_law_369 : decode cL_law 369 = .ok (.aload_n 0, 1) := by decide +kernel
theorem dL_law_370 : decode cL_law 370 = .ok (.iload_n 3, 1) := by decide +kernel
theorem dL_law_371 : decode cL_law 371 = .ok (.iconst 1, 1) := by decide +kernel
theorem dL_law_372 : decode cL_law 372 = .ok (.iadd, 1) := by decide +kernel
theorem dL_law_373 : decode cL_law 373 = .ok (.iaload, 1) := by decide +kernel
theorem dL_law_374 : decode cL_law 374 = .ok (.aload_n 0, 1) := by decide +kernel
theorem dL_law_375 : decode cL_law 375 = .ok (.iload_n 3, 1) := by decide +kernel
theorem dL_law_376 : decode cL_law 376 = .ok (.iconst 2, 1) := by decide +kernel
theorem dL_law_377 : decode cL_law 377 = .ok (.iadd, 1) := by decide +kernel
theorem dL_law_378 : decode cL_law 378 = .ok (.iaload, 1) := by decide +kernel
theorem dL_law_379 : decode cL_law 379 = .ok (.i2l, 1) := by decide +kernel
theorem dL_law_380 : decode cL_law 380 = .ok (.bipush 32, 2) := by decide +kernel
theorem dL_law_382 : decode cL_law 382 = .ok (.lshl, 1) := by decide +kernel
theorem dL_law_383 : decode cL_law 383 = .ok (.aload_n 0, 1) := by decide +kernel
theorem dL_law_384 : decode cL_law 384 = .ok (.iload_n 3, 1) := by decide +kernel
theorem dL_law_385 : decode cL_law 385 = .ok (.iconst 3, 1) := by decide +kernel
theorem dL_law_386 : decode cL_law 386 = .ok (.iadd, 1) := by decide +kernel
theorem dL_law_387 : decode cL_law 387 = .ok (.iaload, 1) := by decide +kernel
theorem dL_law_388 : decode cL_law 388 = .ok (.i2l, 1) := by decide +kernel
theorem dL_law_389 : decode cL_law 389 = .ok (.ldc2_w 48, 3) := by decide +kernel
theorem dL_law_392 : decode cL_law 392 = .ok (.land, 1) := by decide +kernel
theorem dL_law_393 : decode cL_law 393 = .ok (.lor, 1) := by decide +kernel
theorem dL_law_394 : decode cL_law 394 = .ok (.invokevirtual 50, 3) := by decide +kernel
theorem dL_law_397 : decode cL_law 397 = .ok (.aload_n 2, 1) := by decide +kernel
theorem dL_law_398 : decode cL_law 398 = .ok (.aload_n 0, 1) := by decide +kernel
theorem dL_law_399 : decode cL_law 399 = .ok (.iload_n 3, 1) := by decide +kernel
theorem dL_law_400 : decode cL_law 400 = .ok (.iconst 1, 1) := by decide +kernel
theorem dL_law_401 : decode cL_law 401 = .ok (.iadd, 1) := by decide +kernel
theorem dL_law_402 : decode cL_law 402 = .ok (.iaload, 1) := by decide +kernel
theorem dL_law_403 : decode cL_law 403 = .ok (.aload_n 0, 1) := by decide +kernel
theorem dL_law_404 : decode cL_law 404 = .ok (.iload_n 3, 1) := by decide +kernel
theorem dL_law_405 : decode cL_law 405 = .ok (.iconst 2, 1) := by decide +kernel
theorem dL_law_406 : decode cL_law 406 = .ok (.iadd, 1) := by decide +kernel
theorem dL_law_407 : decode cL_law 407 = .ok (.iaload, 1) := by decide +kernel
theorem dL_law_408 : decode cL_law 408 = .ok (.i2l, 1) := by decide +kernel
theorem dL_law_409 : decode cL_law 409 = .ok (.bipush 32, 2) := by decide +kernel
theorem dL_law_411 : decode cL_law 411 = .ok (.lshl, 1) := by decide +kernel
theorem dL_law_412 : decode cL_law 412 = .ok (.aload_n 0, 1) := by decide +kernel
theorem dL_law_413 : decode cL_law 413 = .ok (.iload_n 3, 1) := by decide +kernel
theorem dL_law_414 : decode cL_law 414 = .ok (.iconst 3, 1) := by decide +kernel
theorem dL_law_415 : decode cL_law 415 = .ok (.iadd, 1) := by decide +kernel
theorem dL_law_416 : decode cL_law 416 = .ok (.iaload, 1) := by decide +kernel
theorem dL_law_417 : decode cL_law 417 = .ok (.i2l, 1) := by decide +kernel
theorem dL_law_418 : decode cL_law 418 = .ok (.ldc2_w 48, 3) := by decide +kernel
theorem dL_law_421 : decode cL_law 421 = .ok (.land, 1) := by decide +kernel
theorem dL_law_422 : decode cL_law 422 = .ok (.lor, 1) := by decide +kernel
theorem dL_law_423 : decode cL_law 423 = .ok (.invokevirtual 54, 3) := by decide +kernel
theorem dL_law_426 : decode cL_law 426 = .ok (.if_icmp .eq 456, 3) := by decide +kernel
theorem dL_law_429 : decode cL_law 429 = .ok (.iconst 0, 1) := by decide +kernel
theorem dL_law_430 : decode cL_law 430 = .ok (.ireturn, 1) := by decide +kernel
theorem dL_law_431 : decode cL_law 431 = .ok (.aload_n 1, 1) := by decide +kernel
theorem dL_law_432 : decode cL_law 432 = .ok (.aload_n 0, 1) := by decide +kernel
theorem dL_law_433 : decode cL_law 433 = .ok (.iload_n 3, 1) := by decide +kernel
theorem dL_law_434 : decode cL_law 434 = .ok (.iconst 1, 1) := by decide +kernel
theorem dL_law_435 : decode cL_law 435 = .ok (.iadd, 1) := by decide +kernel
theorem dL_law_436 : decode cL_law 436 = .ok (.iaload, 1) := by decide +kernel
theorem dL_law_437 : decode cL_law 437 = .ok (.invokevirtual 55, 3) := by decide +kernel
theorem dL_law_440 : decode cL_law 440 = .ok (.aload_n 2, 1) := by decide +kernel
theorem dL_law_441 : decode cL_law 441 = .ok (.aload_n 0, 1) := by decide +kernel
theorem dL_law_442 : decode cL_law 442 = .ok (.iload_n 3, 1) := by decide +kernel
theorem dL_law_443 : decode cL_law 443 = .ok (.iconst 1, 1) := by decide +kernel
theorem dL_law_444 : decode cL_law 444 = .ok (.iadd, 1) := by decide +kernel
theorem dL_law_445 : decode cL_law 445 = .ok (.iaload, 1) := by decide +kernel
theorem dL_law_446 : decode cL_law 446 = .ok (.invokevirtual 58, 3) := by decide +kernel
theorem dL_law_449 : decode cL_law 449 = .ok (.if_icmp .eq 433, 3) := by decide +kernel
theorem dL_law_452 : decode cL_law 452 = .ok (.iconst 0, 1) := by decide +kernel
theorem dL_law_453 : decode cL_law 453 = .ok (.ireturn, 1) := by decide +kernel
theorem dL_law_454 : decode cL_law 454 = .ok (.aload_n 1, 1) := by decide +kernel
theorem dL_law_455 : decode cL_law 455 = .ok (.aload_n 0, 1) := by decide +kernel
theorem dL_law_456 : decode cL_law 456 = .ok (.iload_n 3, 1) := by decide +kernel
theorem dL_law_457 : decode cL_law 457 = .ok (.iconst 1, 1) := by decide +kernel
theorem dL_law_458 : decode cL_law 458 = .ok (.iadd, 1) := by decide +kernel
theorem dL_law_459 : decode cL_law 459 = .ok (.iaload, 1) := by decide +kernel
theorem dL_law_460 : decode cL_law 460 = .ok (.invokevirtual 59, 3) := by decide +kernel
theorem dL_law_463 : decode cL_law 463 = .ok (.aload_n 2, 1) := by decide +kernel
theorem dL_law_464 : decode cL_law 464 = .ok (.aload_n 0, 1) := by decide +kernel
theorem dL_law_465 : decode cL_law 465 = .ok (.iload_n 3, 1) := by decide +kernel
theorem dL_law_466 : decode cL_law 466 = .ok (.iconst 1, 1) := by decide +kernel
theorem dL_law_467 : decode cL_law 467 = .ok (.iadd, 1) := by decide +kernel
theorem dL_law_468 : decode cL_law 468 = .ok (.iaload, 1) := by decide +kernel
theorem dL_law_469 : decode cL_law 469 = .ok (.invokevirtual 62, 3) := by decide +kernel
theorem dL_law_472 : decode cL_law 472 = .ok (.if_icmp .eq 410, 3) := by decide +kernel
theorem dL_law_475 : decode cL_law 475 = .ok (.iconst 0, 1) := by decide +kernel
theorem dL_law_476 : decode cL_law 476 = .ok (.ireturn, 1) := by decide +kernel
theorem dL_law_477 : decode cL_law 477 = .ok (.aload_n 1, 1) := by decide +kernel
theorem dL_law_478 : decode cL_law 478 = .ok (.aload_n 0, 1) := by decide +kernel
theorem dL_law_479 : decode cL_law 479 = .ok (.iload_n 3, 1) := by decide +kernel
theorem dL_law_480 : decode cL_law 480 = .ok (.iconst 1, 1) := by decide +kernel
theorem dL_law_481 : decode cL_law 481 = .ok (.iadd, 1) := by decide +kernel
theorem dL_law_482 : decode cL_law 482 = .ok (.iaload, 1) := by decide +kernel
theorem dL_law_483 : decode cL_law 483 = .ok (.invokevirtual 63, 3) := by decide +kernel
theorem dL_law_486 : decode cL_law 486 = .ok (.aload_n 2, 1) := by decide +kernel
theorem dL_law_487 : decode cL_law 487 = .ok (.aload_n 0, 1) := by decide +kernel
theorem dL_law_488 : decode cL_law 488 = .ok (.iload_n 3, 1) := by decide +kernel
theorem dL_law_489 : decode cL_law 489 = .ok (.iconst 1, 1) := by decide +kernel
theorem dL_law_490 : decode cL_law 490 = .ok (.iadd, 1) := by decide +kernel
theorem dL_law_491 : decode cL_law 491 = .ok (.iaload, 1) := by decide +kernel
theorem dL_law_492 : decode cL_law 492 = .ok (.invokevirtual 66, 3) := by decide +kernel
theorem dL_law_495 : decode cL_law 495 = .ok (.if_icmp .eq 387, 3) := by decide +kernel
theorem dL_law_498 : decode cL_law 498 = .ok (.iconst 0, 1) := by decide +kernel
theorem dL_law_499 : decode cL_law 499 = .ok (.ireturn, 1) := by decide +kernel
theorem dL_law_500 : decode cL_law 500 = .ok (.aload_n 1, 1) := by decide +kernel
theorem dL_law_501 : decode cL_law 501 = .ok (.aload_n 0, 1) := by decide +kernel
theorem dL_law_502 : decode cL_law 502 = .ok (.iload_n 3, 1) := by decide +kernel
theorem dL_law_503 : decode cL_law 503 = .ok (.iconst 1, 1) := by decide +kernel
theorem dL_law_504 : decode cL_law 504 = .ok (.iadd, 1) := by decide +kernel
theorem dL_law_505 : decode cL_law 505 = .ok (.iaload, 1) := by decide +kernel
theorem dL_law_506 : decode cL_law 506 = .ok (.invokevirtual 67, 3) := by decide +kernel
theorem dL_law_509 : decode cL_law 509 = .ok (.aload_n 2, 1) := by decide +kernel
theorem dL_law_510 : decode cL_law 510 = .ok (.aload_n 0, 1) := by decide +kernel
theorem dL_law_511 : decode cL_law 511 = .ok (.iload_n 3, 1) := by decide +kernel
theorem dL_law_512 : decode cL_law 512 = .ok (.iconst 1, 1) := by decide +kernel
theorem dL_law_513 : decode cL_law 513 = .ok (.iadd, 1) := by decide +kernel
theorem dL_law_514 : decode cL_law 514 = .ok (.iaload, 1) := by decide +kernel
theorem dL_law_515 : decode cL_law 515 = .ok (.invokevirtual 70, 3) := by decide +kernel
theorem dL_law_518 : decode cL_law 518 = .ok (.if_icmp .eq 364, 3) := by decide +kernel
theorem dL_law_521 : decode cL_law 521 = .ok (.iconst 0, 1) := by decide +kernel
theorem dL_law_522 : decode cL_law 522 = .ok (.ireturn, 1) := by decide +kernel
theorem dL_law_523 : decode cL_law 523 = .ok (.aload_n 1, 1) := by decide +kernel
theorem dL_law_524 : decode cL_law 524 = .ok (.aload_n 0, 1) := by decide +kernel
theorem dL_law_525 : decode cL_law 525 = .ok (.iload_n 3, 1) := by decide +kernel
theorem dL_law_526 : decode cL_law 526 = .ok (.iconst 1, 1) := by decide +kernel
theorem dL_law_527 : decode cL_law 527 = .ok (.iadd, 1) := by decide +kernel
theorem dL_law_528 : decode cL_law 528 = .ok (.iaload, 1) := by decide +kernel
theorem dL_law_529 : decode cL_law 529 = .ok (.aload_n 0, 1) := by decide +kernel
theorem dL_law_530 : decode cL_law 530 = .ok (.iload_n 3, 1) := by decide +kernel
theorem dL_law_531 : decode cL_law 531 = .ok (.iconst 2, 1) := by decide +kernel
theorem dL_law_532 : decode cL_law 532 = .ok (.iadd, 1) := by decide +kernel
theorem dL_law_533 : decode cL_law 533 = .ok (.iaload, 1) := by decide +kernel
theorem dL_law_534 : decode cL_law 534 = .ok (.invokevirtual 71, 3) := by decide +kernel
theorem dL_law_537 : decode cL_law 537 = .ok (.aload_n 2, 1) := by decide +kernel
theorem dL_law_538 : decode cL_law 538 = .ok (.aload_n 0, 1) := by decide +kernel
theorem dL_law_539 : decode cL_law 539 = .ok (.iload_n 3, 1) := by decide +kernel
theorem dL_law_540 : decode cL_law 540 = .ok (.iconst 1, 1) := by decide +kernel
theorem dL_law_541 : decode cL_law 541 = .ok (.iadd, 1) := by decide +kernel
theorem dL_law_542 : decode cL_law 542 = .ok (.iaload, 1) := by decide +kernel
theorem dL_law_543 : decode cL_law 543 = .ok (.aload_n 0, 1) := by decide +kernel
theorem dL_law_544 : decode cL_law 544 = .ok (.iload_n 3, 1) := by decide +kernel
theorem dL_law_545 : decode cL_law 545 = .ok (.iconst 2, 1) := by decide +kernel
theorem dL_law_546 : decode cL_law 546 = .ok (.iadd, 1) := by decide +kernel
theorem dL_law_547 : decode cL_law 547 = .ok (.iaload, 1) := by decide +kernel
theorem dL_law_548 : decode cL_law 548 = .ok (.invokevirtual 74, 3) := by decide +kernel
theorem dL_law_551 : decode cL_law 551 = .ok (.if_icmp .eq 331, 3) := by decide +kernel
theorem dL_law_554 : decode cL_law 554 = .ok (.iconst 0, 1) := by decide +kernel
theorem dL_law_555 : decode cL_law 555 = .ok (.ireturn, 1) := by decide +kernel
theorem dL_law_556 : decode cL_law 556 = .ok (.aload_n 1, 1) := by decide +kernel
theorem dL_law_557 : decode cL_law 557 = .ok (.aload_n 0, 1) := by decide +kernel
theorem dL_law_558 : decode cL_law 558 = .ok (.iload_n 3, 1) := by decide +kernel
theorem dL_law_559 : decode cL_law 559 = .ok (.iconst 1, 1) := by decide +kernel
theorem dL_law_560 : decode cL_law 560 = .ok (.iadd, 1) := by decide +kernel
theorem dL_law_561 : decode cL_law 561 = .ok (.iaload, 1) := by decide +kernel
theorem dL_law_562 : decode cL_law 562 = .ok (.aload_n 0, 1) := by decide +kernel
theorem dL_law_563 : decode cL_law 563 = .ok (.iload_n 3, 1) := by decide +kernel
theorem dL_law_564 : decode cL_law 564 = .ok (.iconst 2, 1) := by decide +kernel
theorem dL_law_565 : decode cL_law 565 = .ok (.iadd, 1) := by decide +kernel
theorem dL_law_566 : decode cL_law 566 = .ok (.iaload, 1) := by decide +kernel
theorem dL_law_567 : decode cL_law 567 = .ok (.aload_n 0, 1) := by decide +kernel
theorem dL_law_568 : decode cL_law 568 = .ok (.iload_n 3, 1) := by decide +kernel
theorem dL_law_569 : decode cL_law 569 = .ok (.iconst 3, 1) := by decide +kernel
theorem dL_law_570 : decode cL_law 570 = .ok (.iadd, 1) := by decide +kernel
theorem dL_law_571 : decode cL_law 571 = .ok (.iaload, 1) := by decide +kernel
theorem dL_law_572 : decode cL_law 572 = .ok (.invokevirtual 75, 3) := by decide +kernel
theorem dL_law_575 : decode cL_law 575 = .ok (.aload_n 2, 1) := by decide +kernel
theorem dL_law_576 : decode cL_law 576 = .ok (.aload_n 0, 1) := by decide +kernel
theorem dL_law_577 : decode cL_law 577 = .ok (.iload_n 3, 1) := by decide +kernel
theorem dL_law_578 : decode cL_law 578 = .ok (.iconst 1, 1) := by decide +kernel
theorem dL_law_579 : decode cL_law 579 = .ok (.iadd, 1) := by decide +kernel
theorem dL_law_580 : decode cL_law 580 = .ok (.iaload, 1) := by decide +kernel
theorem dL_law_581 : decode cL_law 581 = .ok (.aload_n 0, 1) := by decide +kernel
theorem dL_law_582 : decode cL_law 582 = .ok (.iload_n 3, 1) := by decide +kernel
theorem dL_law_583 : decode cL_law 583 = .ok (.iconst 2, 1) := by decide +kernel
theorem dL_law_584 : decode cL_law 584 = .ok (.iadd, 1) := by decide +kernel
theorem dL_law_585 : decode cL_law 585 = .ok (.iaload, 1) := by decide +kernel
theorem dL_law_586 : decode cL_law 586 = .ok (.aload_n 0, 1) := by decide +kernel
theorem dL_law_587 : decode cL_law 587 = .ok (.iload_n 3, 1) := by decide +kernel
theorem dL_law_588 : decode cL_law 588 = .ok (.iconst 3, 1) := by decide +kernel
theorem dL_law_589 : decode cL_law 589 = .ok (.iadd, 1) := by decide +kernel
theorem dL_law_590 : decode cL_law 590 = .ok (.iaload, 1) := by decide +kernel
theorem dL_law_591 : decode cL_law 591 = .ok (.invokevirtual 78, 3) := by decide +kernel
theorem dL_law_594 : decode cL_law 594 = .ok (.if_icmp .eq 288, 3) := by decide +kernel
theorem dL_law_597 : decode cL_law 597 = .ok (.iconst 0, 1) := by decide +kernel
theorem dL_law_598 : decode cL_law 598 = .ok (.ireturn, 1) := by decide +kernel
theorem dL_law_599 : decode cL_law 599 = .ok (.aload_n 1, 1) := by decide +kernel
theorem dL_law_600 : decode cL_law 600 = .ok (.aload_n 0, 1) := by decide +kernel
theorem dL_law_601 : decode cL_law 601 = .ok (.iload_n 3, 1) := by decide +kernel
theorem dL_law_602 : decode cL_law 602 = .ok (.iconst 1, 1) := by decide +kernel
theorem dL_law_603 : decode cL_law 603 = .ok (.iadd, 1) := by decide +kernel
theorem dL_law_604 : decode cL_law 604 = .ok (.iaload, 1) := by decide +kernel
theorem dL_law_605 : decode cL_law 605 = .ok (.aload_n 0, 1) := by decide +kernel
theorem dL_law_606 : decode cL_law 606 = .ok (.iload_n 3, 1) := by decide +kernel
theorem dL_law_607 : decode cL_law 607 = .ok (.iconst 2, 1) := by decide +kernel
theorem dL_law_608 : decode cL_law 608 = .ok (.iadd, 1) := by decide +kernel
theorem dL_law_609 : decode cL_law 609 = .ok (.iaload, 1) := by decide +kernel
theorem dL_law_610 : decode cL_law 610 = .ok (.aload_n 0, 1) := by decide +kernel
theorem dL_law_611 : decode cL_law 611 = .ok (.iload_n 3, 1) := by decide +kernel
theorem dL_law_612 : decode cL_law 612 = .ok (.iconst 3, 1) := by decide +kernel
theorem dL_law_613 : decode cL_law 613 = .ok (.iadd, 1) := by decide +kernel
theorem dL_law_614 : decode cL_law 614 = .ok (.iaload, 1) := by decide +kernel
theorem dL_law_615 : decode cL_law 615 = .ok (.ifCond .eq 7, 3) := by decide +kernel
theorem dL_law_618 : decode cL_law 618 = .ok (.iconst 1, 1) := by decide +kernel
theorem dL_law_619 : decode cL_law 619 = .ok (.goto 4, 3) := by decide +kernel
theorem dL_law_622 : decode cL_law 622 = .ok (.iconst 0, 1) := by decide +kernel
theorem dL_law_623 : decode cL_law 623 = .ok (.invokevirtual 79, 3) := by decide +kernel
theorem dL_law_626 : decode cL_law 626 = .ok (.aload_n 2, 1) := by decide +kernel
theorem dL_law_627 : decode cL_law 627 = .ok (.aload_n 0, 1) := by decide +kernel
theorem dL_law_628 : decode cL_law 628 = .ok (.iload_n 3, 1) := by decide +kernel
theorem dL_law_629 : decode cL_law 629 = .ok (.iconst 1, 1) := by decide +kernel
theorem dL_law_630 : decode cL_law 630 = .ok (.iadd, 1) := by decide +kernel
theorem dL_law_631 : decode cL_law 631 = .ok (.iaload, 1) := by decide +kernel
theorem dL_law_632 : decode cL_law 632 = .ok (.aload_n 0, 1) := by decide +kernel
theorem dL_law_633 : decode cL_law 633 = .ok (.iload_n 3, 1) := by decide +kernel
theorem dL_law_634 : decode cL_law 634 = .ok (.iconst 2, 1) := by decide +kernel
theorem dL_law_635 : decode cL_law 635 = .ok (.iadd, 1) := by decide +kernel
theorem dL_law_636 : decode cL_law 636 = .ok (.iaload, 1) := by decide +kernel
theorem dL_law_637 : decode cL_law 637 = .ok (.aload_n 0, 1) := by decide +kernel
theorem dL_law_638 : decode cL_law 638 = .ok (.iload_n 3, 1) := by decide +kernel
theorem dL_law_639 : decode cL_law 639 = .ok (.iconst 3, 1) := by decide +kernel
theorem dL_law_640 : decode cL_law 640 = .ok (.iadd, 1) := by decide +kernel
theorem dL_law_641 : decode cL_law 641 = .ok (.iaload, 1) := by decide +kernel
theorem dL_law_642 : decode cL_law 642 = .ok (.ifCond .eq 7, 3) := by decide +kernel
theorem dL_law_645 : decode cL_law 645 = .ok (.iconst 1, 1) := by decide +kernel
theorem dL_law_646 : decode cL_law 646 = .ok (.goto 4, 3) := by decide +kernel
theorem dL_law_649 : decode cL_law 649 = .ok (.iconst 0, 1) := by decide +kernel
theorem dL_law_650 : decode cL_law 650 = .ok (.invokevirtual 83, 3) := by decide +kernel
theorem dL_law_653 : decode cL_law 653 = .ok (.if_icmp .eq 229, 3) := by decide +kernel
theorem dL_law_656 : decode cL_law 656 = .ok (.iconst 0, 1) := by decide +kernel
theorem dL_law_657 : decode cL_law 657 = .ok (.ireturn, 1) := by decide +kernel
theorem dL_law_658 : decode cL_law 658 = .ok (.aload_n 1, 1) := by decide +kernel
theorem dL_law_659 : decode cL_law 659 = .ok (.aload_n 0, 1) := by decide +kernel
theorem dL_law_660 : decode cL_law 660 = .ok (.iload_n 3, 1) := by decide +kernel
theorem dL_law_661 : decode cL_law 661 = .ok (.iconst 1, 1) := by decide +kernel
theorem dL_law_662 : decode cL_law 662 = .ok (.iadd, 1) := by decide +kernel
theorem dL_law_663 : decode cL_law 663 = .ok (.iaload, 1) := by decide +kernel
theorem dL_law_664 : decode cL_law 664 = .ok (.aload_n 0, 1) := by decide +kernel
theorem dL_law_665 : decode cL_law 665 = .ok (.iload_n 3, 1) := by decide +kernel
theorem dL_law_666 : decode cL_law 666 = .ok (.iconst 2, 1) := by decide +kernel
theorem dL_law_667 : decode cL_law 667 = .ok (.iadd, 1) := by decide +kernel
theorem dL_law_668 : decode cL_law 668 = .ok (.iaload, 1) := by decide +kernel
theorem dL_law_669 : decode cL_law 669 = .ok (.invokevirtual 84, 3) := by decide +kernel
theorem dL_law_672 : decode cL_law 672 = .ok (.aload_n 2, 1) := by decide +kernel
theorem dL_law_673 : decode cL_law 673 = .ok (.aload_n 0, 1) := by decide +kernel
theorem dL_law_674 : decode cL_law 674 = .ok (.iload_n 3, 1) := by decide +kernel
theorem dL_law_675 : decode cL_law 675 = .ok (.iconst 1, 1) := by decide +kernel
theorem dL_law_676 : decode cL_law 676 = .ok (.iadd, 1) := by decide +kernel
theorem dL_law_677 : decode cL_law 677 = .ok (.iaload, 1) := by decide +kernel
theorem dL_law_678 : decode cL_law 678 = .ok (.aload_n 0, 1) := by decide +kernel
theorem dL_law_679 : decode cL_law 679 = .ok (.iload_n 3, 1) := by decide +kernel
theorem dL_law_680 : decode cL_law 680 = .ok (.iconst 2, 1) := by decide +kernel
theorem dL_law_681 : decode cL_law 681 = .ok (.iadd, 1) := by decide +kernel
theorem dL_law_682 : decode cL_law 682 = .ok (.iaload, 1) := by decide +kernel
theorem dL_law_683 : decode cL_law 683 = .ok (.invokevirtual 87, 3) := by decide +kernel
theorem dL_law_686 : decode cL_law 686 = .ok (.if_icmp .eq 196, 3) := by decide +kernel
theorem dL_law_689 : decode cL_law 689 = .ok (.iconst 0, 1) := by decide +kernel
theorem dL_law_690 : decode cL_law 690 = .ok (.ireturn, 1) := by decide +kernel
theorem dL_law_691 : decode cL_law 691 = .ok (.aload_n 1, 1) := by decide +kernel
theorem dL_law_692 : decode cL_law 692 = .ok (.aload_n 0, 1) := by decide +kernel
theorem dL_law_693 : decode cL_law 693 = .ok (.iload_n 3, 1) := by decide +kernel
theorem dL_law_694 : decode cL_law 694 = .ok (.iconst 1, 1) := by decide +kernel
theorem dL_law_695 : decode cL_law 695 = .ok (.iadd, 1) := by decide +kernel
theorem dL_law_696 : decode cL_law 696 = .ok (.iaload, 1) := by decide +kernel
theorem dL_law_697 : decode cL_law 697 = .ok (.invokevirtual 88, 3) := by decide +kernel
theorem dL_law_700 : decode cL_law 700 = .ok (.aload_n 2, 1) := by decide +kernel
theorem dL_law_701 : decode cL_law 701 = .ok (.aload_n 0, 1) := by decide +kernel
theorem dL_law_702 : decode cL_law 702 = .ok (.iload_n 3, 1) := by decide +kernel
theorem dL_law_703 : decode cL_law 703 = .ok (.iconst 1, 1) := by decide +kernel
theorem dL_law_704 : decode cL_law 704 = .ok (.iadd, 1) := by decide +kernel
theorem dL_law_705 : decode cL_law 705 = .ok (.iaload, 1) := by decide +kernel
theorem dL_law_706 : decode cL_law 706 = .ok (.invokevirtual 91, 3) := by decide +kernel
theorem dL_law_709 : decode cL_law 709 = .ok (.if_icmp .eq 173, 3) := by decide +kernel
theorem dL_law_712 : decode cL_law 712 = .ok (.iconst 0, 1) := by decide +kernel
theorem dL_law_713 : decode cL_law 713 = .ok (.ireturn, 1) := by decide +kernel
theorem dL_law_714 : decode cL_law 714 = .ok (.aload_n 1, 1) := by decide +kernel
theorem dL_law_715 : decode cL_law 715 = .ok (.aload_n 0, 1) := by decide +kernel
theorem dL_law_716 : decode cL_law 716 = .ok (.iload_n 3, 1) := by decide +kernel
theorem dL_law_717 : decode cL_law 717 = .ok (.iconst 1, 1) := by decide +kernel
theorem dL_law_718 : decode cL_law 718 = .ok (.iadd, 1) := by decide +kernel
theorem dL_law_719 : decode cL_law 719 = .ok (.iaload, 1) := by decide +kernel
theorem dL_law_720 : decode cL_law 720 = .ok (.invokevirtual 92, 3) := by decide +kernel
theorem dL_law_723 : decode cL_law 723 = .ok (.aload_n 2, 1) := by decide +kernel
theorem dL_law_724 : decode cL_law 724 = .ok (.aload_n 0, 1) := by decide +kernel
theorem dL_law_725 : decode cL_law 725 = .ok (.iload_n 3, 1) := by decide +kernel
theorem dL_law_726 : decode cL_law 726 = .ok (.iconst 1, 1) := by decide +kernel
theorem dL_law_727 : decode cL_law 727 = .ok (.iadd, 1) := by decide +kernel
theorem dL_law_728 : decode cL_law 728 = .ok (.iaload, 1) := by decide +kernel
theorem dL_law_729 : decode cL_law 729 = .ok (.invokevirtual 95, 3) := by decide +kernel
theorem dL_law_732 : decode cL_law 732 = .ok (.if_icmp .eq 150, 3) := by decide +kernel
theorem dL_law_735 : decode cL_law 735 = .ok (.iconst 0, 1) := by decide +kernel
theorem dL_law_736 : decode cL_law 736 = .ok (.ireturn, 1) := by decide +kernel
theorem dL_law_737 : decode cL_law 737 = .ok (.aload_n 1, 1) := by decide +kernel
theorem dL_law_738 : decode cL_law 738 = .ok (.aload_n 0, 1) := by decide +kernel
theorem dL_law_739 : decode cL_law 739 = .ok (.iload_n 3, 1) := by decide +kernel
theorem dL_law_740 : decode cL_law 740 = .ok (.iconst 1, 1) := by decide +kernel
theorem dL_law_741 : decode cL_law 741 = .ok (.iadd, 1) := by decide +kernel
theorem dL_law_742 : decode cL_law 742 = .ok (.iaload, 1) := by decide +kernel
theorem dL_law_743 : decode cL_law 743 = .ok (.aload_n 0, 1) := by decide +kernel
theorem dL_law_744 : decode cL_law 744 = .ok (.iload_n 3, 1) := by decide +kernel
theorem dL_law_745 : decode cL_law 745 = .ok (.iconst 2, 1) := by decide +kernel
theorem dL_law_746 : decode cL_law 746 = .ok (.iadd, 1) := by decide +kernel
theorem dL_law_747 : decode cL_law 747 = .ok (.iaload, 1) := by decide +kernel
theorem dL_law_748 : decode cL_law 748 = .ok (.invokevirtual 96, 3) := by decide +kernel
theorem dL_law_751 : decode cL_law 751 = .ok (.aload_n 2, 1) := by decide +kernel
theorem dL_law_752 : decode cL_law 752 = .ok (.aload_n 0, 1) := by decide +kernel
theorem dL_law_753 : decode cL_law 753 = .ok (.iload_n 3, 1) := by decide +kernel
theorem dL_law_754 : decode cL_law 754 = .ok (.iconst 1, 1) := by decide +kernel
theorem dL_law_755 : decode cL_law 755 = .ok (.iadd, 1) := by decide +kernel
theorem dL_law_756 : decode cL_law 756 = .ok (.iaload, 1) := by decide +kernel
theorem dL_law_757 : decode cL_law 757 = .ok (.aload_n 0, 1) := by decide +kernel
theorem dL_law_758 : decode cL_law 758 = .ok (.iload_n 3, 1) := by decide +kernel
theorem dL_law_759 : decode cL_law 759 = .ok (.iconst 2, 1) := by decide +kernel
theorem dL_law_760 : decode cL_law 760 = .ok (.iadd, 1) := by decide +kernel
theorem dL_law_761 : decode cL_law 761 = .ok (.iaload, 1) := by decide +kernel
theorem dL_law_762 : decode cL_law 762 = .ok (.invokevirtual 99, 3) := by decide +kernel
theorem dL_law_765 : decode cL_law 765 = .ok (.if_icmp .eq 117, 3) := by decide +kernel
theorem dL_law_768 : decode cL_law 768 = .ok (.iconst 0, 1) := by decide +kernel
theorem dL_law_769 : decode cL_law 769 = .ok (.ireturn, 1) := by decide +kernel
theorem dL_law_770 : decode cL_law 770 = .ok (.aload_n 1, 1) := by decide +kernel
theorem dL_law_771 : decode cL_law 771 = .ok (.aload_n 0, 1) := by decide +kernel
theorem dL_law_772 : decode cL_law 772 = .ok (.iload_n 3, 1) := by decide +kernel
theorem dL_law_773 : decode cL_law 773 = .ok (.iconst 1, 1) := by decide +kernel
theorem dL_law_774 : decode cL_law 774 = .ok (.iadd, 1) := by decide +kernel
theorem dL_law_775 : decode cL_law 775 = .ok (.iaload, 1) := by decide +kernel
theorem dL_law_776 : decode cL_law 776 = .ok (.aload_n 0, 1) := by decide +kernel
theorem dL_law_777 : decode cL_law 777 = .ok (.iload_n 3, 1) := by decide +kernel
theorem dL_law_778 : decode cL_law 778 = .ok (.iconst 2, 1) := by decide +kernel
theorem dL_law_779 : decode cL_law 779 = .ok (.iadd, 1) := by decide +kernel
theorem dL_law_780 : decode cL_law 780 = .ok (.iaload, 1) := by decide +kernel
theorem dL_law_781 : decode cL_law 781 = .ok (.invokevirtual 100, 3) := by decide +kernel
theorem dL_law_784 : decode cL_law 784 = .ok (.aload_n 2, 1) := by decide +kernel
theorem dL_law_785 : decode cL_law 785 = .ok (.aload_n 0, 1) := by decide +kernel
theorem dL_law_786 : decode cL_law 786 = .ok (.iload_n 3, 1) := by decide +kernel
theorem dL_law_787 : decode cL_law 787 = .ok (.iconst 1, 1) := by decide +kernel
theorem dL_law_788 : decode cL_law 788 = .ok (.iadd, 1) := by decide +kernel
theorem dL_law_789 : decode cL_law 789 = .ok (.iaload, 1) := by decide +kernel
theorem dL_law_790 : decode cL_law 790 = .ok (.aload_n 0, 1) := by decide +kernel
theorem dL_law_791 : decode cL_law 791 = .ok (.iload_n 3, 1) := by decide +kernel
theorem dL_law_792 : decode cL_law 792 = .ok (.iconst 2, 1) := by decide +kernel
theorem dL_law_793 : decode cL_law 793 = .ok (.iadd, 1) := by decide +kernel
theorem dL_law_794 : decode cL_law 794 = .ok (.iaload, 1) := by decide +kernel
theorem dL_law_795 : decode cL_law 795 = .ok (.invokevirtual 103, 3) := by decide +kernel
theorem dL_law_798 : decode cL_law 798 = .ok (.if_icmp .eq 84, 3) := by decide +kernel
theorem dL_law_801 : decode cL_law 801 = .ok (.iconst 0, 1) := by decide +kernel
theorem dL_law_802 : decode cL_law 802 = .ok (.ireturn, 1) := by decide +kernel
theorem dL_law_803 : decode cL_law 803 = .ok (.aload_n 1, 1) := by decide +kernel
theorem dL_law_804 : decode cL_law 804 = .ok (.aload_n 0, 1) := by decide +kernel
theorem dL_law_805 : decode cL_law 805 = .ok (.iload_n 3, 1) := by decide +kernel
theorem dL_law_806 : decode cL_law 806 = .ok (.iconst 1, 1) := by decide +kernel
theorem dL_law_807 : decode cL_law 807 = .ok (.iadd, 1) := by decide +kernel
theorem dL_law_808 : decode cL_law 808 = .ok (.iaload, 1) := by decide +kernel
theorem dL_law_809 : decode cL_law 809 = .ok (.invokevirtual 104, 3) := by decide +kernel
theorem dL_law_812 : decode cL_law 812 = .ok (.aload_n 2, 1) := by decide +kernel
theorem dL_law_813 : decode cL_law 813 = .ok (.aload_n 0, 1) := by decide +kernel
theorem dL_law_814 : decode cL_law 814 = .ok (.iload_n 3, 1) := by decide +kernel
theorem dL_law_815 : decode cL_law 815 = .ok (.iconst 1, 1) := by decide +kernel
theorem dL_law_816 : decode cL_law 816 = .ok (.iadd, 1) := by decide +kernel
theorem dL_law_817 : decode cL_law 817 = .ok (.iaload, 1) := by decide +kernel
theorem dL_law_818 : decode cL_law 818 = .ok (.invokevirtual 107, 3) := by decide +kernel
theorem dL_law_821 : decode cL_law 821 = .ok (.if_icmp .eq 61, 3) := by decide +kernel
theorem dL_law_824 : decode cL_law 824 = .ok (.iconst 0, 1) := by decide +kernel
theorem dL_law_825 : decode cL_law 825 = .ok (.ireturn, 1) := by decide +kernel
theorem dL_law_826 : decode cL_law 826 = .ok (.aload_n 1, 1) := by decide +kernel
theorem dL_law_827 : decode cL_law 827 = .ok (.aload_n 0, 1) := by decide +kernel
theorem dL_law_828 : decode cL_law 828 = .ok (.iload_n 3, 1) := by decide +kernel
theorem dL_law_829 : decode cL_law 829 = .ok (.iconst 1, 1) := by decide +kernel
theorem dL_law_830 : decode cL_law 830 = .ok (.iadd, 1) := by decide +kernel
theorem dL_law_831 : decode cL_law 831 = .ok (.iaload, 1) := by decide +kernel
theorem dL_law_832 : decode cL_law 832 = .ok (.aload_n 0, 1) := by decide +kernel
theorem dL_law_833 : decode cL_law 833 = .ok (.iload_n 3, 1) := by decide +kernel
theorem dL_law_834 : decode cL_law 834 = .ok (.iconst 2, 1) := by decide +kernel
theorem dL_law_835 : decode cL_law 835 = .ok (.iadd, 1) := by decide +kernel
theorem dL_law_836 : decode cL_law 836 = .ok (.iaload, 1) := by decide +kernel
theorem dL_law_837 : decode cL_law 837 = .ok (.invokevirtual 108, 3) := by decide +kernel
theorem dL_law_840 : decode cL_law 840 = .ok (.aload_n 2, 1) := by decide +kernel
theorem dL_law_841 : decode cL_law 841 = .ok (.aload_n 0, 1) := by decide +kernel
theorem dL_law_842 : decode cL_law 842 = .ok (.iload_n 3, 1) := by decide +kernel
theorem dL_law_843 : decode cL_law 843 = .ok (.iconst 1, 1) := by decide +kernel
theorem dL_law_844 : decode cL_law 844 = .ok (.iadd, 1) := by decide +kernel
theorem dL_law_845 : decode cL_law 845 = .ok (.iaload, 1) := by decide +kernel
theorem dL_law_846 : decode cL_law 846 = .ok (.aload_n 0, 1) := by decide +kernel
theorem dL_law_847 : decode cL_law 847 = .ok (.iload_n 3, 1) := by decide +kernel
theorem dL_law_848 : decode cL_law 848 = .ok (.iconst 2, 1) := by decide +kernel
theorem dL_law_849 : decode cL_law 849 = .ok (.iadd, 1) := by decide +kernel
theorem dL_law_850 : decode cL_law 850 = .ok (.iaload, 1) := by decide +kernel
theorem dL_law_851 : decode cL_law 851 = .ok (.invokevirtual 111, 3) := by decide +kernel
theorem dL_law_854 : decode cL_law 854 = .ok (.if_icmp .eq 28, 3) := by decide +kernel
theorem dL_law_857 : decode cL_law 857 = .ok (.iconst 0, 1) := by decide +kernel
theorem dL_law_858 : decode cL_law 858 = .ok (.ireturn, 1) := by decide +kernel
theorem dL_law_859 : decode cL_law 859 = .ok (.aload_n 1, 1) := by decide +kernel
theorem dL_law_860 : decode cL_law 860 = .ok (.aload_n 0, 1) := by decide +kernel
theorem dL_law_861 : decode cL_law 861 = .ok (.iload_n 3, 1) := by decide +kernel
theorem dL_law_862 : decode cL_law 862 = .ok (.iconst 1, 1) := by decide +kernel
theorem dL_law_863 : decode cL_law 863 = .ok (.iadd, 1) := by decide +kernel
theorem dL_law_864 : decode cL_law 864 = .ok (.iaload, 1) := by decide +kernel
theorem dL_law_865 : decode cL_law 865 = .ok (.invokevirtual 112, 3) := by decide +kernel
theorem dL_law_868 : decode cL_law 868 = .ok (.aload_n 2, 1) := by decide +kernel
theorem dL_law_869 : decode cL_law 869 = .ok (.aload_n 0, 1) := by decide +kernel
theorem dL_law_870 : decode cL_law 870 = .ok (.iload_n 3, 1) := by decide +kernel
theorem dL_law_871 : decode cL_law 871 = .ok (.iconst 1, 1) := by decide +kernel
theorem dL_law_872 : decode cL_law 872 = .ok (.iadd, 1) := by decide +kernel
theorem dL_law_873 : decode cL_law 873 = .ok (.iaload, 1) := by decide +kernel
theorem dL_law_874 : decode cL_law 874 = .ok (.invokevirtual 115, 3) := by decide +kernel
theorem dL_law_877 : decode cL_law 877 = .ok (.if_icmp .eq 5, 3) := by decide +kernel
theorem dL_law_880 : decode cL_law 880 = .ok (.iconst 0, 1) := by decide +kernel
theorem dL_law_881 : decode cL_law 881 = .ok (.ireturn, 1) := by decide +kernel
theorem dL_law_882 : decode cL_law 882 = .ok (.iinc 3 4, 3) := by decide +kernel
theorem dL_law_885 : decode cL_law 885 = .ok (.goto (-867), 3) := by decide +kernel
theorem dL_law_888 : decode cL_law 888 = .ok (.iconst 1, 1) := by decide +kernel
theorem dL_law_889 : decode cL_law 889 = .ok (.ireturn, 1) := by decide +kernel
end
section
/-! THE CLAIM OUT OF ONE WALK OF THE LAW'S BODY. Your part is whole_start (and what it stands on); all else here is the same for every law, but numbers. -/
def R_law : String := "PageMenderLaw"
def lw_P (b : Addr) (xs : List Int32) (args : Array Value) (s : State) : Prop := args = #[.ref b] ∧ s.IntsAt b xs ∧ xs.length ≤ 2048 ∧ (Jvm.Cond.and given_1 narrow_1).before args s = true
def lw_Q (_ : Array Value) (s : State) (o : Outcome) (t : State) : Prop := o = .returned (some (.int 1)) ∧ Framed s o t [] 600000 7302250
def lw_Z (below : List Frame) (a : Array Value) (s : State) : State → Prop := fun t => ∃ o, t.status = .running ∧ Ended t below o ∧ lw_Q a s o t
/-- the law's own end, with 1 on the stack, nothing written that was there before, its room as the claim has it -/
theorem lw_ret {p : Program} {l : Launch} {e : Env} {s : State} {m : MethodId} {below : List Frame} {meth : Method} {c : Code} {b : Nat} (hx : p.tables.exec = Jvm.exec) (hb : c.code = code) (hr : meth.sig.returnType = ret) (hlocks : meth.locks = false) {pc : Nat} {H : Heap} {ls : Array Slot} (hdg : decode code pc = .ok (.ireturn, 1)) : W p l e room_1 s m #[Value.ref b] below meth c H [] 600000 7302250 (lw_Z below #[Value.ref b] s) (F0 m pc ls [.int 1]) := by
  intro T hT X
  obtain ⟨fs, hret, hrun, hended, hW, hframe⟩ := X.leave (v := some (.int 1)) (hlocks := hlocks) (fun h => by rw [hr] at h; cases h)
  have hmeth' : T.vm.method? m = some meth := X.method'
  refine ⟨T.setFrames fs, ?_, .returned (some (.int 1)), hrun, hended, rfl, ⟨_, rfl⟩, hW, hframe⟩
  jvm_step X.here [X.here.top, hx, hb, hdg, hmeth', hr, ret, narrow_b1]
  (try refine ⟨rfl, ?_⟩); (try refine ⟨rfl, ?_⟩)
  first | (intro acts; rw [hret _ acts rfl rfl rfl]) | rw [hret _ _ rfl rfl rfl]
  exact Steps.refl _
/-- what holds at the law's entry: the machine, the code, the tables' words (any of lw_tbl by 'hts w (by decide +kernel)'), the script of L ints xs at the cell b, what the Statement gives of the start (any of its parts by flat_of_before) -/
def lw_At (p : Program) (s : State) (m : MethodId) (meth : Method) (c : Code) (b L : Nat) (xs : Nat → Int32) : Prop :=
  p.tables.exec = Jvm.exec ∧ c.code = code ∧ meth.sig.returnType = ret ∧ c.maxLocals = 4 ∧ s.vm.findClass R_law = some m.cls ∧ (∀ w ∈ lw_tbl, w.before #[Value.ref b] s = true) ∧ va_X b L xs s s.heap ∧ b < s.heap.size ∧ meth.locks = false ∧ (Jvm.Cond.and given_1 narrow_1).before #[Value.ref b] s = true
/-- what is left, over places alone: the law's code, from its first instruction, over every script of at most 2048 ints, comes to its end with 1, and within the room -/
def LawGoal : Prop := ∀ X : Ev, ev_L X ≤ 2048 → ∃ M' : Hp, G X 10 jL_law [] 0 [some (.retAddr 0), none, none, none] [] [] (some (.int 1)) M' ∧ M'.length ≤ 600000 ∧ sl M' ≤ 7302250
theorem gt_tbl {w : Cond} (h : w ∈ gt) : w ∈ lw_tbl := (List.mem_filter.mp h).1
theorem arr_of {s : State} {args : Array Value} {ty : FieldType} (h : (Cond.arrayClass ty).before args s = true) (hty : ∀ C, ty ≠ .object C) : ∃ c, ArrOfT s c ty ∧ va_RA s c ty := by
  obtain ⟨c, k, comp, h1, h2, h3⟩ := Cond.arrayClass_spec h
  refine ⟨c, fun n z => ⟨fun k h => (by cases h), k, h2, comp, h3⟩, ?_⟩
  cases ty with
  | object C => exact absurd rfl (hty C)
  | _ => exact h1
theorem frame_of {s t : State} {o : Outcome} {L : List Loc} {k n k' n' : Nat} (h : FrameEnd s o t L k n) (hL : ∀ q ∈ L, s.heap.size ≤ q.base) (hk : k ≤ k') (hn : n ≤ n') : Framed s o t [] k' n' :=
  ⟨h.1, h.2.1, State.sameButNew.weaken h.2.2 (fun y hy hlt => absurd hlt (Nat.not_lt.mpr (hL y hy))) hk hn⟩
set_option maxHeartbeats 4000000 in
theorem start_of (hG : LawGoal) {p : Program} {e : Env} {s : State} {m : MethodId} {below : List Frame} {meth : Method} {c : Code} (l : Launch) {b L : Nat} {xs : Nat → Int32} (hL : L ≤ 2048) (C0 : lw_At p s m meth c b L xs) : W p l e room_1 s m #[Value.ref b] below meth c s.heap [] 0 0 (lw_Z below #[Value.ref b] s) (entryFrame m ([Value.ref b] : List Value).toArray 4) := by
  obtain ⟨hx, hb, hr, hml, hown, hts, hX, hbl, hlocks, hgv⟩ := id C0
  have hg : ∀ w ∈ gt, w.before #[Value.ref b] s = true := fun w hw => hts w (gt_tbl hw)
  have hnA : ∀ a : Nat, a < s.heap.size → ¬ (fun q : Nat => s.heap.size ≤ q) a := fun a h => Nat.not_le.mpr h
  obtain ⟨c0, iS0, hKn0⟩ := u_known (C := RX0) (T := TX0) (N := 12) (n := 12) hg uX0 (hg _ ins_0)
  obtain ⟨c1, iS1, hKn1⟩ := u_known (C := RX2) (T := TX2) (N := 5) (n := 5) hg uX2 (hg _ ins_2)
  obtain ⟨c2, iS2, hKn2⟩ := u_known (C := RX3) (T := TX3) (N := 9) (n := 9) hg uX3 (hg _ ins_3)
  obtain ⟨c3, iS3, hKn3⟩ := u_known (C := RX4) (T := TX4) (N := 4) (n := 4) hg uX4 (hg _ ins_4)
  obtain ⟨c4, iS4, hKn4⟩ := u_known (C := RX5) (T := TX5) (N := 1) (n := 1) hg uX5 (hg _ ins_5)
  obtain ⟨c5, iS5, hKn5⟩ := u_known (C := RX6) (T := TX6) (N := 10) (n := 10) hg uX6 (hg _ ins_6)
  obtain ⟨c6, iS6, hKn6⟩ := u_known (C := RX7) (T := TX7) (N := 27) (n := 27) hg uX7 (hg _ ins_7)
  obtain ⟨dC, dI, hKc⟩ : ∃ (dC : Nat → ClassId) (dI : Nat → Nat → Nat), ∀ (k : Nat) (q : vw_C), cls_[k]? = some q → u_Kn s q.1 q.2.1 q.2.2 (dC k) (dI k) := by
    refine ⟨fun k => if k = 0 then c0 else if k = 1 then c1 else if k = 2 then c2 else if k = 3 then c3 else if k = 4 then c4 else if k = 5 then c5 else c6, fun k => if k = 0 then iS0 else if k = 1 then iS1 else if k = 2 then iS2 else if k = 3 then iS3 else if k = 4 then iS4 else if k = 5 then iS5 else iS6, ?_⟩
    intro k q hq
    match k, hq with
    | 0, hq => cases hq; exact hKn0
    | 1, hq => cases hq; exact hKn1
    | 2, hq => cases hq; exact hKn2
    | 3, hq => cases hq; exact hKn3
    | 4, hq => cases hq; exact hKn4
    | 5, hq => cases hq; exact hKn5
    | 6, hq => cases hq; exact hKn6
    | k + 7, hq => simp [cls_] at hq
  obtain ⟨a0, hA0⟩ := arr_of (hg _ aw_i) (fun C h => by cases h)
  obtain ⟨a1, hA1⟩ := arr_of (hg _ aw_l) (fun C h => by cases h)
  obtain ⟨a2, hA2⟩ := arr_of (hg _ aw_z) (fun C h => by cases h)
  have hao : va_AO "PageMender$Page" s := va_AO.of (hts (.arrayOver (.object "PageMender$Page")) (List.mem_append_right _ (List.mem_append_left _ (List.mem_of_getElem? (i := 155) rfl))))
  obtain ⟨comp, a3, k3, g1, g2, g3, g4, g5⟩ := Cond.arrayOver_spec hao
  have hA3 : ArrOfT s a3 (.object "PageMender$Page") ∧ va_RA s a3 (.object "PageMender$Page") := ⟨fun n z => ⟨fun k h => (by cases h), k3, g3, comp, g4⟩, k3, comp, g3, g4, g1, g5⟩
  have hfl := flat_of_before _ hgv
  obtain ⟨pol, hpe, hpT⟩ := va_Tof (args := #[Value.ref b]) (s := s) (tm := .static "PageMender$Field" "POLYNOMIALS" "[I") (ty := .int) (N := 11) (f := fun j => .int (pols j)) (A := fun q => s.heap.size ≤ q) (by decide) (hfl _ (by decide +kernel)) (va_eqt (z := 11) (hfl _ (by decide +kernel))) (fun j hj => by
    match j, hj with
    | 0, _ => exact va_eqt (t := .elem (.static "PageMender$Field" "POLYNOMIALS" "[I") (.int 0)) (z := 11) (hfl _ (by decide +kernel))
    | 1, _ => exact va_eqt (t := .elem (.static "PageMender$Field" "POLYNOMIALS" "[I") (.int 1)) (z := 19) (hfl _ (by decide +kernel))
    | 2, _ => exact va_eqt (t := .elem (.static "PageMender$Field" "POLYNOMIALS" "[I") (.int 2)) (z := 37) (hfl _ (by decide +kernel))
    | 3, _ => exact va_eqt (t := .elem (.static "PageMender$Field" "POLYNOMIALS" "[I") (.int 3)) (z := 67) (hfl _ (by decide +kernel))
    | 4, _ => exact va_eqt (t := .elem (.static "PageMender$Field" "POLYNOMIALS" "[I") (.int 4)) (z := 137) (hfl _ (by decide +kernel))
    | 5, _ => exact va_eqt (t := .elem (.static "PageMender$Field" "POLYNOMIALS" "[I") (.int 5)) (z := 285) (hfl _ (by decide +kernel))
    | 6, _ => exact va_eqt (t := .elem (.static "PageMender$Field" "POLYNOMIALS" "[I") (.int 6)) (z := 529) (hfl _ (by decide +kernel))
    | 7, _ => exact va_eqt (t := .elem (.static "PageMender$Field" "POLYNOMIALS" "[I") (.int 7)) (z := 1033) (hfl _ (by decide +kernel))
    | 8, _ => exact va_eqt (t := .elem (.static "PageMender$Field" "POLYNOMIALS" "[I") (.int 8)) (z := 2053) (hfl _ (by decide +kernel))
    | 9, _ => exact va_eqt (t := .elem (.static "PageMender$Field" "POLYNOMIALS" "[I") (.int 9)) (z := 4179) (hfl _ (by decide +kernel))
    | 10, _ => exact va_eqt (t := .elem (.static "PageMender$Field" "POLYNOMIALS" "[I") (.int 10)) (z := 8219) (hfl _ (by decide +kernel))
    | j + 11, h => exact absurd h (by omega)) hnA
  have hpZ := va_Zof (C := "PageMender$Field") (n := "POLYNOMIALS") (d := "[I") (v := .ref pol) (A := fun q => s.heap.size ≤ q) (hts (.laysStatic "PageMender$Field" "POLYNOMIALS" "[I") (List.mem_append_right _ (List.mem_append_right _ (List.mem_append_left _ (List.mem_of_getElem? (i := 8) rfl))))) (hg _ ini_2) hpe hnA
  obtain ⟨scr, x1, x2, x3, x4, x5⟩ := hX
  have hsT : va_T .int b L (fun j => .int (xs j)) (fun q => s.heap.size ≤ q) s s.heap := ⟨scr, x1, x2, x3, by omega, by rw [x4] <;> rfl, x5, hnA b hbl⟩
  let X : Ev := (l, (dC, dI), (fun t => if t = 0 then a0 else if t = 1 then a1 else if t = 2 then a2 else a3), s.heap.size, b, pol, L, xs)
  obtain ⟨M', hGX, hm1, hm2⟩ := hG X hL
  have hK : va_K (ev_D X) cls_ (tys_ X) s := ⟨hKc, fun k q hk => by
    match k, hk with
    | 0, hk => cases hk; exact hA0
    | 1, hk => cases hk; exact hA1
    | 2, hk => cases hk; exact hA2
    | 3, hk => cases hk; exact hA3
    | k + 4, hk => simp at hk⟩
  have hl := lv_entry ([.ref b]) (n := 4) (Nat.le_of_ble_eq_true rfl)
  rw [lg_entry_eq]
  have h := hGX.2 (Le.rf []) p e room_1 s m #[Value.ref b] below meth c s.heap [] _ ⟨hx, hb, hml, hr, hlocks, fun h => absurd h (by decide), hown, hg, by decide, by decide, hK, ⟨hsT, hpT, hpZ, hao⟩, rfl⟩ ⟨by show M'.length - 0 ≤ 600000; omega, by show sl M' - 0 ≤ 7302250; omega⟩ ⟨fun k q h => by simp [ws_] at h, va_S.rf, hl⟩
  intro T hT Y
  obtain ⟨t, s1, o, q1, q2, q3, LL, q4, q5⟩ := h T hT Y
  refine ⟨t, s1, o, q1, q2, q3.1.1, frame_of q4 (fun q hq => q5 q hq) (by simpa using hm1) (by show sl M' - 0 ≤ 7302250; omega)⟩
end
section
/-! more rows of the logic, and small laws of numbers -/
section MORE
variable {X : Ev} {d : Nat} {J : Jt} {M0 M M' : Hp} {pc : Nat} {ls : List (Option Value)} {st : List Value} {v : Option Value}
theorem x_casti {x y : Int32} (h : x = y) (k : G X d J M0 pc ls (.int y :: st) M v M') : G X d J M0 pc ls (.int x :: st) M v M' := by subst h; exact k
theorem x_castl {x y : Int64} (h : x = y) (k : G X d J M0 pc ls (.long y :: st) M v M') : G X d J M0 pc ls (.long x :: st) M v M' := by subst h; exact k
theorem x_ireturn_eq {x y : Int32} (hd : decode J.2.1 pc = .ok (.ireturn, 1)) (hr : J.2.2.2 = some .int) (h : x = y) : G X d J M0 pc ls [.int x] M (some (.int y)) M := by subst h; exact x_ireturn hd hr
theorem x_zreturn_eq {x : Int32} {b : Bool} (hd : decode J.2.1 pc = .ok (.ireturn, 1)) (hr : J.2.2.2 = some .boolean) (h : x = if b then 1 else 0) : G X d J M0 pc ls [.int x] M (some (.int (if b then 1 else 0))) M := by
  subst h; exact x_zreturn hd hr (by cases b <;> rfl)
theorem G.hp {M1 : Hp} (h : M = M1) (k : G X d J M0 pc ls st M1 v M') : G X d J M0 pc ls st M v M' := by subst h; exact k
end MORE
theorem gs {M : Hp} {p : Nat} {c c' : Cel} (h : M[p]? = some c) : (M.set p c')[p]? = some c' := List.getElem?_set_self (List.getElem?_eq_some_iff.mp h).1
theorem gn {M : Hp} {p q : Nat} {c c' : Cel} (h : M[p]? = some c) (hn : q ≠ p) : (M.set q c')[p]? = some c := by rw [List.getElem?_set_ne hn]; exact h
theorem ss0 {M : Hp} {p : Nat} {a c : Cel} : (M.set p a).set p c = M.set p c := List.set_set ..
theorem ss1 {M : Hp} {p q : Nat} {a b c : Cel} (h : p ≠ q) : ((M.set p a).set q b).set p c = (M.set p c).set q b := by rw [List.set_comm _ _ (Ne.symm h), List.set_set]
theorem ss2 {M : Hp} {p q r : Nat} {a b e c : Cel} (h : p ≠ q) (h2 : p ≠ r) : (((M.set p a).set q b).set r e).set p c = ((M.set p c).set q b).set r e := by rw [List.set_comm _ _ (Ne.symm h2), ss1 h]
theorem ss3 {M : Hp} {p q r u : Nat} {a b e f c : Cel} (h : p ≠ q) (h2 : p ≠ r) (h3 : p ≠ u) : ((((M.set p a).set q b).set r e).set u f).set p c = (((M.set p c).set q b).set r e).set u f := by rw [List.set_comm _ _ (Ne.symm h3), ss2 h h2]
theorem ii_add (i n : Nat) : nI i + Int32.ofInt n = nI (i + n) := by rw [← nI_add]; rfl
theorem bI {x : Bool} : (if x then (1 : Int32) else 0) = if x then nI 1 else nI 0 := by cases x <;> rfl
end
section
/-! rows on bits, shifts and unsigned numbers, to paste: each family out of a closed proof of our own, whole with what it rests on; each by itself clean at Lean in its own claim (generation 39, form 5). Take a family whole -/
/-! ===== Int32 by its bits: bt x i ===== -/
def bt (x : Int32) (i : Nat) : Bool := x.toBitVec.getLsbD i
theorem b_ext {x y : Int32} (h : ∀ i, i < 32 → bt x i = bt y i) : x = y := Int32.toBitVec_inj.mp (BitVec.eq_of_getLsbD_eq (fun i hi => h i hi))
theorem b_or (x y : Int32) (i : Nat) : bt (x ||| y) i = (bt x i || bt y i) := by unfold bt; rw [Int32.toBitVec_or, BitVec.getLsbD_or]
theorem b_and (x y : Int32) (i : Nat) : bt (x &&& y) i = (bt x i && bt y i) := by unfold bt; rw [Int32.toBitVec_and, BitVec.getLsbD_and]
theorem b_xor (x y : Int32) (i : Nat) : bt (x ^^^ y) i = (bt x i ^^ bt y i) := by unfold bt; rw [Int32.toBitVec_xor, BitVec.getLsbD_xor]
theorem b_big {x : Int32} {i : Nat} (h : 32 ≤ i) : bt x i = false := BitVec.getLsbD_of_ge _ _ h
theorem b_255 (i : Nat) : bt 255 i = decide (i < 8) := by
  rcases Nat.lt_or_ge i 32 with h | h
  · exact (by decide +kernel : ∀ i, i < 32 → bt 255 i = decide (i < 8)) i h
  · rw [b_big h, decide_eq_false (by omega)]
theorem b_65535 (i : Nat) : bt 65535 i = decide (i < 16) := by
  rcases Nat.lt_or_ge i 32 with h | h
  · exact (by decide +kernel : ∀ i, i < 32 → bt 65535 i = decide (i < 16)) i h
  · rw [b_big h, decide_eq_false (by omega)]
theorem b_m1 : ∀ i, i < 32 → bt (-1) i = true := by decide +kernel
theorem b_0 (i : Nat) : bt 0 i = false := BitVec.getLsbD_zero
theorem s_l : ∀ n, n < 32 → ((nI n &&& 31).toBitVec.smod 32).toNat = n := by decide +kernel
theorem s_u : ∀ n, n < 32 → (((nI n).toUInt32 &&& Int32.toUInt32 31).toBitVec % 32).toNat = n := by decide +kernel
theorem b_shl (n : Nat) (hn : n < 32) (x : Int32) {i : Nat} (hi : i < 32) : bt (x <<< (nI n &&& 31)) i = (decide (n ≤ i) && bt x (i - n)) := by
  unfold bt
  rw [Int32.toBitVec_shiftLeft]
  show (x.toBitVec <<< ((nI n &&& 31).toBitVec.smod 32).toNat).getLsbD i = _
  rw [s_l n hn, BitVec.getLsbD_shiftLeft]
  rcases Nat.lt_or_ge i n with h | h
  · simp [h, Nat.not_le.mpr h]
  · simp [hi, h, Nat.not_lt.mpr h]
theorem b_ushr (n : Nat) (hn : n < 32) (x : Int32) (i : Nat) : bt ((x.toUInt32 >>> ((nI n).toUInt32 &&& Int32.toUInt32 31)).toInt32) i = bt x (n + i) := by
  show (x.toUInt32 >>> ((nI n).toUInt32 &&& Int32.toUInt32 31)).toBitVec.getLsbD i = x.toUInt32.toBitVec.getLsbD (n + i)
  rw [UInt32.toBitVec_shiftRight]
  show (x.toUInt32.toBitVec >>> (((nI n).toUInt32 &&& Int32.toUInt32 31).toBitVec % 32).toNat).getLsbD i = _
  rw [s_u n hn, BitVec.getLsbD_ushiftRight]
theorem b_sshr (n : Nat) (hn : n < 32) (x : Int32) {i : Nat} (hi : i < 32) : bt (x >>> (nI n &&& 31)) i = if n + i < 32 then bt x (n + i) else bt x 31 := by
  unfold bt
  rw [Int32.toBitVec_shiftRight]
  show (x.toBitVec.sshiftRight ((nI n &&& 31).toBitVec.smod 32).toNat).getLsbD i = _
  rw [s_l n hn, BitVec.getLsbD_sshiftRight, BitVec.msb_eq_getLsbD_last]
  simp [hi]
theorem b_shl8 (x : Int32) {i : Nat} (hi : i < 32) : bt (x <<< ((8 : Int32) &&& 31)) i = (decide (8 ≤ i) && bt x (i - 8)) := b_shl 8 (by omega) x hi
theorem b_shl16 (x : Int32) {i : Nat} (hi : i < 32) : bt (x <<< ((16 : Int32) &&& 31)) i = (decide (16 ≤ i) && bt x (i - 16)) := b_shl 16 (by omega) x hi
theorem b_shl24 (x : Int32) {i : Nat} (hi : i < 32) : bt (x <<< ((24 : Int32) &&& 31)) i = (decide (24 ≤ i) && bt x (i - 24)) := b_shl 24 (by omega) x hi
theorem b_sshr8 (x : Int32) {i : Nat} (hi : i < 32) : bt (x >>> ((8 : Int32) &&& 31)) i = if 8 + i < 32 then bt x (8 + i) else bt x 31 := b_sshr 8 (by omega) x hi
/-! ===== nI under and, xor, >>>, one bit, 65535 ===== -/
theorem nx_and (a b : Nat) : nI a &&& nI b = nI (a &&& b) := by
  apply Int32.toBitVec_inj.1
  show BitVec.ofNat 32 a &&& BitVec.ofNat 32 b = BitVec.ofNat 32 (a &&& b)
  apply BitVec.eq_of_getLsbD_eq
  intro i hi
  simp [hi]
theorem nx_xor (a b : Nat) : nI a ^^^ nI b = nI (a ^^^ b) := by
  apply Int32.toBitVec_inj.1
  show BitVec.ofNat 32 a ^^^ BitVec.ofNat 32 b = BitVec.ofNat 32 (a ^^^ b)
  apply BitVec.eq_of_getLsbD_eq
  intro i hi
  simp [hi]
theorem nx_cnt : ∀ j : Fin 32, (UInt32.ofNat j.val &&& Int32.toUInt32 31).toNat % 32 = j.val := by decide +kernel
theorem nx_ush {k j : Nat} (hk : k < 65536) (hj : j < 32) : ((nI k).toUInt32 >>> ((nI j).toUInt32 &&& Int32.toUInt32 31)).toInt32 = nI (k >>> j) := by
  have hs : k >>> j ≤ k := by
    rw [Nat.shiftRight_eq_div_pow]
    exact Nat.div_le_self _ _
  have e2 : UInt32.ofNat k >>> (UInt32.ofNat j &&& Int32.toUInt32 31) = UInt32.ofNat (k >>> j) := by
    apply UInt32.toNat_inj.1
    have h1 : (UInt32.ofNat k).toNat = k := Nat.mod_eq_of_lt (by omega)
    have h2 : (UInt32.ofNat (k >>> j)).toNat = k >>> j := Nat.mod_eq_of_lt (by omega)
    rw [UInt32.toNat_shiftRight, nx_cnt ⟨j, hj⟩, h1, h2]
  show (UInt32.ofNat k >>> (UInt32.ofNat j &&& Int32.toUInt32 31)).toInt32 = _
  rw [e2]
  rfl
theorem nx_bit {k j : Nat} (hk : k < 65536) (hj : j < 16) : (((nI k).toUInt32 >>> ((nI j).toUInt32 &&& Int32.toUInt32 31)).toInt32 &&& 1) = 0 ↔ k.testBit j = false := by
  rw [nx_ush hk (by omega)]
  show nI (k >>> j) &&& nI 1 = 0 ↔ _
  rw [nx_and, Nat.and_one_is_mod, ← nI_0, nI_eq (by omega) (by omega), Nat.testBit_eq_decide_div_mod_eq, Nat.shiftRight_eq_div_pow, decide_eq_false_iff_not]
  generalize k / 2 ^ j = z
  omega
theorem nx_mod (k : Nat) : nI k &&& 65535 = nI (k % 65536) := by
  show nI k &&& nI 65535 = _
  rw [nx_and, show (65535 : Nat) = 2 ^ 16 - 1 from rfl, Nat.and_two_pow_sub_one_eq_mod]
theorem nx_m16 {k : Nat} (h : k < 65536) : nI k &&& 65535 = nI k := by rw [nx_mod, Nat.mod_eq_of_lt h]
theorem nx_mask (x : Int32) : ∃ k, k < 65536 ∧ x &&& 65535 = nI k := by
  have e : x = nI x.toBitVec.toNat := by
    apply Int32.toBitVec_inj.1
    show x.toBitVec = BitVec.ofNat 32 x.toBitVec.toNat
    simp
  refine ⟨x.toBitVec.toNat % 65536, Nat.mod_lt _ (by omega), ?_⟩
  rw [← nx_mod, ← e]
/-! ===== Int32 as a set of bits: test, set ===== -/
def nf_M (m : Int32) : Nat := 4294967296 - m.toBitVec.toNat
theorem nf_sh : ∀ l, l < 32 → ((1 : Int32) <<< (nI l &&& 31)).toBitVec = BitVec.twoPow 32 l := by decide +kernel
theorem nf_sl : ∀ l, l < 32 → (((nI l).toUInt32 &&& Int32.toUInt32 31).toBitVec % 32).toNat = l := by decide +kernel
theorem nf_tp : ∀ l, l < 32 → BitVec.twoPow 32 l ≠ 0#32 := by decide +kernel
theorem nf_bit (m : Int32) (l : Nat) (hl : l < 32) : ((m.toUInt32 >>> ((nI l).toUInt32 &&& Int32.toUInt32 31)).toInt32 &&& 1) = 0 ↔ (m &&& ((1 : Int32) <<< (nI l &&& 31))) = 0 := by
  have e : ((m.toUInt32 >>> ((nI l).toUInt32 &&& Int32.toUInt32 31)).toInt32).toBitVec = m.toBitVec >>> l := by
    show m.toBitVec >>> (((nI l).toUInt32 &&& Int32.toUInt32 31).toBitVec % 32) = m.toBitVec >>> l
    rw [BitVec.ushiftRight_eq', nf_sl l hl]
  rw [← Int32.toBitVec_inj, ← Int32.toBitVec_inj, Int32.toBitVec_and, Int32.toBitVec_and, nf_sh l hl, e, BitVec.and_twoPow]
  show (m.toBitVec >>> l &&& 1#32) = 0#32 ↔ _ = 0#32
  rw [BitVec.and_one_eq_setWidth_ofBool_getLsbD, BitVec.getLsbD_ushiftRight, Nat.add_zero]
  cases hb : m.toBitVec.getLsbD l
  · exact ⟨fun _ => by simp, fun _ => by decide⟩
  · exact ⟨fun z => absurd z (by decide), fun z => absurd ((if_pos rfl).symm.trans z) (nf_tp l hl)⟩
theorem nf_gr (m k : Int32) (h : m &&& k = 0) (hk : k ≠ 0) : nf_M (m ||| k) < nf_M m := by
  have hm := m.toBitVec.isLt
  have hm' := (m ||| k).toBitVec.isLt
  have h1 : m.toBitVec.toNat ≤ (m ||| k).toBitVec.toNat := by
    rw [Int32.toBitVec_or, BitVec.toNat_or]
    exact Nat.left_le_or
  have h2 : m.toBitVec.toNat ≠ (m ||| k).toBitVec.toNat := by
    intro e
    have e2 : m = m ||| k := Int32.toBitVec_inj.mp (BitVec.eq_of_toNat_eq e)
    apply hk
    apply Int32.toBitVec_inj.mp
    show k.toBitVec = 0#32
    apply BitVec.eq_of_getLsbD_eq
    intro i hi
    have a : m.toBitVec.getLsbD i = (m.toBitVec.getLsbD i || k.toBitVec.getLsbD i) := by rw [← BitVec.getLsbD_or, ← Int32.toBitVec_or, ← e2]
    have b : (m.toBitVec.getLsbD i && k.toBitVec.getLsbD i) = false := by
      rw [← BitVec.getLsbD_and, ← Int32.toBitVec_and, h]
      exact BitVec.getLsbD_zero
    rw [BitVec.getLsbD_zero]
    revert a b
    cases m.toBitVec.getLsbD i <;> cases k.toBitVec.getLsbD i <;> simp
  unfold nf_M
  omega
/-! ===== a byte read unsigned ===== -/
theorem bp_b (x : Int32) : x.toInt8.toInt32 &&& 255 = x &&& 255 := by
  apply Int32.toBitVec_inj.mp
  rw [Int32.toBitVec_and, Int32.toBitVec_and, Int8.toBitVec_toInt32, Int32.toBitVec_toInt8]
  apply BitVec.eq_of_getLsbD_eq
  intro i hi
  rw [BitVec.getLsbD_and, BitVec.getLsbD_and]
  have hm : ∀ i < 32, 8 ≤ i → (255 : Int32).toBitVec.getLsbD i = false := by decide
  rcases Nat.lt_or_ge i 8 with z | z
  · rw [BitVec.getLsbD_signExtend, BitVec.getLsbD_signExtend, if_pos z, if_pos hi]
    simp only [z, hi, decide_true, Bool.true_and]
  · rw [hm i hi z]; simp
/-! ===== the char cast and 65535 ===== -/
/-! ===== Int64 as a set of bits: test, set, clear ===== -/
theorem ts_nf {x : Bool} (h : ¬ x = false) : x = true := by cases x <;> first | rfl | exact absurd rfl h
theorem ts_nt {x : Bool} (h : ¬ x = true) : x = false := by cases x <;> first | rfl | exact absurd rfl h
theorem ts_bit {w : Int64} {s : UInt64} {j : Nat} (hj : j < 64) (hs : s.toNat = j) : ((w.toUInt64 >>> s).toInt64 &&& 1) = 0 ↔ w.toBitVec.getLsbD j = false := by
  have e : (w.toUInt64 >>> s).toInt64.toBitVec = w.toBitVec >>> j := by
    apply BitVec.eq_of_toNat_eq
    show (w.toUInt64 >>> s).toNat = _
    rw [UInt64.toNat_shiftRight, hs, Nat.mod_eq_of_lt hj, BitVec.toNat_ushiftRight]
    rfl
  rw [← Int64.toBitVec_inj, Int64.toBitVec_and, e]
  show w.toBitVec >>> j &&& 1#64 = 0#64 ↔ _
  constructor
  · intro h
    have t := congrArg (fun x => x.getLsbD 0) h
    simpa using t
  · intro h
    apply BitVec.eq_of_getLsbD_eq
    intro i hi
    cases i with
    | zero => simp [h]
    | succ i => simp
theorem ts_or {w m : Int64} {j : Nat} (hj : j < 64) (hm : m.toBitVec = BitVec.twoPow 64 j) : (w ||| m) = w ↔ w.toBitVec.getLsbD j = true := by
  rw [← Int64.toBitVec_inj, Int64.toBitVec_or, hm]
  constructor
  · intro h
    have t := congrArg (fun x => x.getLsbD j) h
    simp only [BitVec.getLsbD_or, BitVec.getLsbD_twoPow] at t
    simpa [hj] using t.symm
  · intro h
    apply BitVec.eq_of_getLsbD_eq
    intro i hi
    rw [BitVec.getLsbD_or, BitVec.getLsbD_twoPow]
    by_cases e : j = i
    · subst e; rw [h, Bool.true_or]
    · simp [e]
theorem ts_and {w m : Int64} {j : Nat} (hj : j < 64) (hm : m.toBitVec = BitVec.twoPow 64 j) : (w &&& (m ^^^ (-1))) = w ↔ w.toBitVec.getLsbD j = false := by
  have ha : (-1 : Int64).toBitVec = BitVec.allOnes 64 := by decide
  rw [← Int64.toBitVec_inj, Int64.toBitVec_and, Int64.toBitVec_xor, hm, ha]
  constructor
  · intro h
    have t := congrArg (fun x => x.getLsbD j) h
    simp only [BitVec.getLsbD_and, BitVec.getLsbD_xor, BitVec.getLsbD_twoPow, BitVec.getLsbD_allOnes] at t
    simpa [hj] using t.symm
  · intro h
    apply BitVec.eq_of_getLsbD_eq
    intro i hi
    rw [BitVec.getLsbD_and, BitVec.getLsbD_xor, BitVec.getLsbD_twoPow, BitVec.getLsbD_allOnes]
    by_cases e : j = i
    · subst e; rw [h, Bool.false_and]
    · simp [e, hi]
/-! ===== lN n to 2^64: shifts, and, or, masks, one bit ===== -/
theorem wb_tb (n : Nat) : (lN n).toBitVec = BitVec.ofNat 64 n := rfl
theorem wb_inj {a b : Int64} (h : a.toBitVec = b.toBitVec) : a = b := Int64.toBitVec_inj.mp h
theorem wb_tn {n : Nat} (h : n < 2 ^ 64) : (lN n).toBitVec.toNat = n := by rw [wb_tb, BitVec.toNat_ofNat, Nat.mod_eq_of_lt h]
theorem wb_of (x : Int64) : ∃ n, n < 2 ^ 64 ∧ x = lN n := ⟨x.toBitVec.toNat, x.toBitVec.isLt, wb_inj (by rw [wb_tb]; simp)⟩
theorem wb_of32 (x : Int32) : ∃ n, n < 2 ^ 32 ∧ x = nI n := ⟨x.toBitVec.toNat, x.toBitVec.isLt, Int32.toBitVec_inj.mp (by show _ = BitVec.ofNat 32 _; simp)⟩
theorem wb_c : ∀ k, k < 64 → ((nI k).toInt64 &&& 63) = lN k := by decide +kernel
theorem wb_cu : ∀ k, k < 64 → ((nI k).toInt64.toUInt64 &&& Int64.toUInt64 63) = UInt64.ofNat k := by decide +kernel
theorem wb_sm : ∀ k, k < 64 → (BitVec.ofNat 64 k).smod 64 = BitVec.ofNat 64 k := by decide +kernel
theorem wb_pw {a b : Nat} (h : a ≤ b) : 2 ^ b = 2 ^ a * 2 ^ (b - a) := by rw [← Nat.pow_add]; congr 1; omega
theorem wb_lt2 {a b : Nat} (h : a < b) : 2 ^ a < 2 ^ b := Nat.pow_lt_pow_right (by decide) h
theorem wb_mod (n : Nat) : lN n = lN (n % 2 ^ 64) := wb_inj (by rw [wb_tb, wb_tb]; apply BitVec.eq_of_toNat_eq; rw [BitVec.toNat_ofNat, BitVec.toNat_ofNat, Nat.mod_mod])
theorem wb_shr {n k : Nat} (hn : n < 2 ^ 64) (hk : k < 64) : ((lN n).toUInt64 >>> ((nI k).toInt64.toUInt64 &&& Int64.toUInt64 63)).toInt64 = lN (n / 2 ^ k) := by
  rw [wb_cu k hk]
  apply wb_inj
  apply BitVec.eq_of_toNat_eq
  show ((lN n).toUInt64 >>> UInt64.ofNat k).toNat = (BitVec.ofNat 64 _).toNat
  have h1 : (UInt64.ofNat k).toNat = k := by
    show (BitVec.ofNat 64 k).toNat = k
    rw [BitVec.toNat_ofNat, Nat.mod_eq_of_lt (by omega)]
  have h2 : (lN n).toUInt64.toNat = n := wb_tn hn
  rw [UInt64.toNat_shiftRight, h1, h2, Nat.mod_eq_of_lt hk, Nat.shiftRight_eq_div_pow, BitVec.toNat_ofNat, Nat.mod_eq_of_lt (Nat.lt_of_le_of_lt (Nat.div_le_self _ _) hn)]
theorem wb_shl (n : Nat) {k : Nat} (hk : k < 64) : lN n <<< ((nI k).toInt64 &&& 63) = lN (n * 2 ^ k) := by
  rw [wb_c k hk]
  apply wb_inj
  rw [Int64.toBitVec_shiftLeft, wb_tb, wb_tb, wb_tb, wb_sm k hk]
  apply BitVec.eq_of_toNat_eq
  rw [BitVec.shiftLeft_eq', BitVec.toNat_shiftLeft, BitVec.toNat_ofNat, BitVec.toNat_ofNat, BitVec.toNat_ofNat, Nat.mod_eq_of_lt (show k < 2 ^ 64 by omega), Nat.shiftLeft_eq, Nat.mul_mod, Nat.mod_mod, ← Nat.mul_mod]
theorem wb_and {a b : Nat} (ha : a < 2 ^ 64) (hb : b < 2 ^ 64) : lN a &&& lN b = lN (a &&& b) := by
  apply wb_inj
  rw [Int64.toBitVec_and, wb_tb, wb_tb, wb_tb]
  apply BitVec.eq_of_toNat_eq
  rw [BitVec.toNat_and, BitVec.toNat_ofNat, BitVec.toNat_ofNat, BitVec.toNat_ofNat, Nat.mod_eq_of_lt ha, Nat.mod_eq_of_lt hb, Nat.mod_eq_of_lt (Nat.and_lt_two_pow _ hb)]
theorem wb_or {a b : Nat} (ha : a < 2 ^ 64) (hb : b < 2 ^ 64) : lN a ||| lN b = lN (a ||| b) := by
  apply wb_inj
  rw [Int64.toBitVec_or, wb_tb, wb_tb, wb_tb]
  apply BitVec.eq_of_toNat_eq
  rw [BitVec.toNat_or, BitVec.toNat_ofNat, BitVec.toNat_ofNat, BitVec.toNat_ofNat, Nat.mod_eq_of_lt ha, Nat.mod_eq_of_lt hb, Nat.mod_eq_of_lt (Nat.or_lt_two_pow ha hb)]
theorem wb_mask {n k : Nat} (hn : n < 2 ^ 64) (hk : k < 64) : lN n &&& lN (2 ^ k - 1) = lN (n % 2 ^ k) := by
  rw [wb_and hn (by have := wb_lt2 hk; omega), Nat.and_two_pow_sub_one_eq_mod]
theorem wb_a1 {n : Nat} (hn : n < 2 ^ 64) : lN n &&& 1 = lN (n % 2) := wb_mask (k := 1) hn (by decide)
theorem wb_bit {n k : Nat} (hn : n < 2 ^ 64) (hk : k < 64) : ((lN n).toUInt64 >>> ((nI k).toInt64.toUInt64 &&& Int64.toUInt64 63)).toInt64 &&& 1 = lN (n / 2 ^ k % 2) := by
  rw [wb_shr hn hk, wb_a1 (Nat.lt_of_le_of_lt (Nat.div_le_self _ _) hn)]
theorem wb_xor {q k : Nat} (hk : k < 63) (h : 2 ^ k ≤ q) (h2 : q < 2 ^ (k + 1)) : lN q ^^^ lN (2 ^ k) = lN (q - 2 ^ k) := by
  obtain ⟨r, rfl⟩ : ∃ r, q = 2 ^ k + r := ⟨q - 2 ^ k, by omega⟩
  have hr : r < 2 ^ k := by rw [Nat.pow_succ] at h2; omega
  have hx : (2 ^ k + r) ^^^ 2 ^ k = r := by
    apply Nat.eq_of_testBit_eq
    intro i
    rw [Nat.testBit_xor, Nat.testBit_two_pow]
    rcases Nat.lt_trichotomy i k with h | h | h
    · rw [Nat.testBit_two_pow_add_gt h]
      simp [show ¬ k = i by omega]
    · subst h
      rw [Nat.testBit_two_pow_add_eq]
      simp
    · have a1 : 2 ^ (k + 1) ≤ 2 ^ i := Nat.pow_le_pow_right (by decide) h
      rw [Nat.testBit_lt_two_pow (show 2 ^ k + r < 2 ^ i by omega), Nat.testBit_lt_two_pow (show r < 2 ^ i by omega)]
      simp [show ¬ k = i by omega]
  have b1 := wb_lt2 (show k + 1 < 64 by omega)
  have b2 := wb_lt2 (show k < 64 by omega)
  apply wb_inj
  rw [Int64.toBitVec_xor, wb_tb, wb_tb, wb_tb]
  apply BitVec.eq_of_toNat_eq
  rw [BitVec.toNat_xor, BitVec.toNat_ofNat, BitVec.toNat_ofNat, BitVec.toNat_ofNat, Nat.mod_eq_of_lt (by omega : 2 ^ k + r < 2 ^ 64), Nat.mod_eq_of_lt b2, hx, Nat.add_sub_cancel_left, Nat.mod_eq_of_lt (by omega)]
/-! ===== lN: masks, 'or' of parts that don't overlap is a sum ===== -/
theorem u_tn {n : Nat} (h : n < 2 ^ 64) : (UInt64.ofNat n).toNat = n := Nat.mod_eq_of_lt h
theorem g_and {a b c : Nat} (ha : a < 2 ^ 64) (hb : b < 2 ^ 64) (hc : a &&& b = c) : lN a &&& lN b = lN c := by
  subst hc
  have h : UInt64.ofNat a &&& UInt64.ofNat b = UInt64.ofNat (a &&& b) := UInt64.toNat_inj.mp (by rw [UInt64.toNat_and, u_tn ha, u_tn hb, u_tn (Nat.and_lt_two_pow a hb)])
  have h2 := congrArg UInt64.toInt64 h
  exact h2
theorem g_and1 {a : Nat} (ha : a < 2 ^ 64) : lN a &&& 1 = lN (a % 2) := g_and (b := 1) ha (by decide) (Nat.and_two_pow_sub_one_eq_mod a 1)
theorem g_mask {a s p : Nat} (hp : 2 ^ s = p) (hs : s < 64) (ha : a < 2 ^ 64) : lN a &&& lN (p - 1) = lN (a % p) := by
  subst hp
  have := Nat.pow_lt_pow_right (show 1 < 2 by decide) hs
  exact g_and ha (by omega) (Nat.and_two_pow_sub_one_eq_mod a s)
theorem g_or {k p a b : Nat} (hp : 2 ^ k = p) (ha : a < p) (h : b * p + a < 2 ^ 64) : lN (b * p) ||| lN a = lN (b * p + a) := by
  subst hp
  have h1 : b * 2 ^ k ||| a = b * 2 ^ k + a := by rw [← Nat.shiftLeft_eq, Nat.shiftLeft_add_eq_or_of_lt ha]
  have h3 : UInt64.ofNat (b * 2 ^ k) ||| UInt64.ofNat a = UInt64.ofNat (b * 2 ^ k + a) := UInt64.toNat_inj.mp (by rw [UInt64.toNat_or, u_tn (by omega), u_tn (by omega), u_tn h, h1])
  have h2 := congrArg UInt64.toInt64 h3
  exact h2
theorem g_or' {k p a b : Nat} (hp : 2 ^ k = p) (ha : a < p) (h : a + b * p < 2 ^ 64) : lN a ||| lN (b * p) = lN (a + b * p) := by
  rw [Int64.or_comm, g_or hp ha (by omega), Nat.add_comm]
theorem g_ushr {a k p : Nat} {y : UInt64} (hy : y = UInt64.ofNat k) (hk : k < 64) (hp : 2 ^ k = p) (ha : a < 2 ^ 64) : ((lN a).toUInt64 >>> y).toInt64 = lN (a / p) := by
  subst hy hp
  have h : UInt64.ofNat a >>> UInt64.ofNat k = UInt64.ofNat (a / 2 ^ k) := UInt64.toNat_inj.mp (by rw [UInt64.toNat_shiftRight, u_tn ha, u_tn (by omega), u_tn (Nat.lt_of_le_of_lt (Nat.div_le_self _ _) ha), Nat.mod_eq_of_lt hk, Nat.shiftRight_eq_div_pow])
  have h2 := congrArg UInt64.toInt64 h
  exact h2
theorem g_shl {a k p : Nat} {y : Int64} (hy : y.toBitVec.smod 64 = BitVec.ofNat 64 k) (hk : k < 64) (hp : 2 ^ k = p) (ha : a < 2 ^ 64) : lN a <<< y = lN (a * p) := by
  subst hp
  apply Int64.toBitVec_inj.mp
  rw [Int64.toBitVec_shiftLeft, hy]
  apply BitVec.eq_of_toNat_eq
  have hb : (lN a).toBitVec.toNat = a := Nat.mod_eq_of_lt ha
  have hk' : (BitVec.ofNat 64 k).toNat = k := Nat.mod_eq_of_lt (by omega)
  have h : ((lN a).toBitVec <<< BitVec.ofNat 64 k).toNat = (a * 2 ^ k) % 2 ^ 64 := by simp only [BitVec.shiftLeft_eq', BitVec.toNat_shiftLeft, hb, hk', Nat.shiftLeft_eq]
  exact h
/-! ===== lN to 2^62 under >> and >>> ===== -/
theorem pf_lI {a : Nat} (h : a < 2 ^ 63) : (lN a).toInt = (a : Int) := lg_ofNat_toInt h
theorem pf_shr {a d : Nat} {D : Int64} (hD : (D.toBitVec.smod 64).toNat = d) (h : a < 2 ^ 62) : lN a >>> D = lN (a / 2 ^ d) := by
  have hd : a / 2 ^ d ≤ a := Nat.div_le_self _ _
  apply Int64.toInt_inj.mp
  have e : (lN a >>> D).toInt = (lN a).toInt >>> d := by
    rw [← hD]
    exact BitVec.toInt_sshiftRight ..
  rw [e, Int.shiftRight_eq_div_pow, pf_lI (by omega), pf_lI (by omega)]
  rfl
theorem pf_ushr {a d : Nat} {D : UInt64} (hD : D.toNat % 64 = d) (h : a < 2 ^ 62) : ((lN a).toUInt64 >>> D).toInt64 = lN (a / 2 ^ d) := by
  have hd : a / 2 ^ d ≤ a := Nat.div_le_self _ _
  have e : (lN a).toUInt64 >>> D = UInt64.ofNat (a / 2 ^ d) := UInt64.toNat_inj.mp (by
    rw [UInt64.toNat_shiftRight, hD, Nat.shiftRight_eq_div_pow, UInt64.toNat_ofNat']
    show (UInt64.ofNat a).toNat / 2 ^ d = _
    rw [UInt64.toNat_ofNat', Nat.mod_eq_of_lt (by omega), Nat.mod_eq_of_lt (by omega)])
  rw [e]
  rfl
theorem pf_andw (x : Int64) : ∃ m, m < 2 ^ 32 ∧ x &&& 4294967295 = lN m := ⟨x.toBitVec.toNat % 2 ^ 32, Nat.mod_lt _ (by decide), Int64.toBitVec_inj.mp (BitVec.eq_of_toNat_eq (by
  show (x.toBitVec &&& 4294967295#64).toNat = (BitVec.ofNat 64 (x.toBitVec.toNat % 2 ^ 32)).toNat
  rw [BitVec.toNat_and, show (4294967295#64).toNat = 2 ^ 32 - 1 from by decide, Nat.and_two_pow_sub_one_eq_mod, BitVec.toNat_ofNat]
  omega))⟩
/-! ===== Int64 as an unsigned number: uN x ===== -/
def uN (x : Int64) : Nat := x.toUInt64.toNat
theorem uN_lt (x : Int64) : uN x < 18446744073709551616 := x.toUInt64.toNat_lt
theorem uN_inj {x y : Int64} (h : uN x = uN y) : x = y := congrArg UInt64.toInt64 (UInt64.toNat_inj.mp h)
theorem uN_add (x y : Int64) : uN (x + y) = (uN x + uN y) % 18446744073709551616 := by
  show (x.toUInt64 + y.toUInt64).toNat = _
  exact UInt64.toNat_add _ _
theorem uN_mul (x y : Int64) : uN (x * y) = (uN x * uN y) % 18446744073709551616 := by
  show (x.toUInt64 * y.toUInt64).toNat = _
  exact UInt64.toNat_mul _ _
theorem uN_shl (x : Int64) : uN (x <<< ((1 : Int32).toInt64 &&& 63)) = (2 * uN x) % 18446744073709551616 := by
  have h : (((1 : Int32).toInt64 &&& 63).toBitVec.smod 64).toNat = 1 := by decide
  show (x.toBitVec <<< (((1 : Int32).toInt64 &&& 63).toBitVec.smod 64).toNat).toNat = _
  rw [h, BitVec.toNat_shiftLeft, Nat.shiftLeft_eq, Nat.mul_comm]
  rfl
theorem uN_shr (x : Int64) (s : UInt64) : uN (x.toUInt64 >>> s).toInt64 = uN x / 2 ^ (s.toNat % 64) := by
  show (x.toUInt64 >>> s).toNat = _
  rw [UInt64.toNat_shiftRight, Nat.shiftRight_eq_div_pow]
  rfl
theorem uN_s32 (x : Int64) : uN (x.toUInt64 >>> ((32 : Int32).toInt64.toUInt64 &&& Int64.toUInt64 63)).toInt64 = uN x / 4294967296 := by
  have h : ((32 : Int32).toInt64.toUInt64 &&& Int64.toUInt64 63).toNat % 64 = 32 := by decide
  rw [uN_shr, h]
theorem uN_s63 (x : Int64) : uN (x.toUInt64 >>> ((63 : Int32).toInt64.toUInt64 &&& Int64.toUInt64 63)).toInt64 = uN x / 9223372036854775808 := by
  have h : ((63 : Int32).toInt64.toUInt64 &&& Int64.toUInt64 63).toNat % 64 = 63 := by decide
  rw [uN_shr, h]
theorem uN_lo (x : Int64) : uN (x &&& 4294967295) = uN x % 4294967296 := by
  show (x.toUInt64 &&& Int64.toUInt64 4294967295).toNat = _
  rw [UInt64.toNat_and]
  exact Nat.and_two_pow_sub_one_eq_mod _ 32
theorem uN_bit (x : Int64) : (x &&& 1) = 0 ↔ uN x % 2 = 0 := by
  have h : uN (x &&& 1) = uN x % 2 := by
    show (x.toUInt64 &&& Int64.toUInt64 1).toNat = _
    rw [UInt64.toNat_and]
    exact Nat.and_two_pow_sub_one_eq_mod _ 1
  rw [← h]
  exact ⟨fun z => by rw [z]; rfl, fun z => uN_inj (z.trans rfl)⟩
theorem uN_or {x y : Int64} (hy : uN y < 2) : uN ((x <<< ((1 : Int32).toInt64 &&& 63)) ||| y) = (2 * uN x) % 18446744073709551616 + uN y := by
  have h1 : uN ((x <<< ((1 : Int32).toInt64 &&& 63)) ||| y) = uN (x <<< ((1 : Int32).toInt64 &&& 63)) ||| uN y := UInt64.toNat_or _ _
  have h2 : (2 * uN x) % 18446744073709551616 = 2 ^ 1 * (uN x % 9223372036854775808) := by omega
  rw [h1, uN_shl, h2]
  exact (Nat.two_pow_add_eq_or_of_lt (i := 1) hy _).symm
theorem nat_xor {a : Nat} (h : a < 18446744073709551616) : a ^^^ 2 ^ 63 = (a + 9223372036854775808) % 18446744073709551616 := by
  have h1 : (a ^^^ 2 ^ 63) % 2 ^ 63 = a % 2 ^ 63 := by rw [Nat.xor_mod_two_pow, Nat.mod_self, Nat.xor_zero]
  have h2 : (a ^^^ 2 ^ 63) / 2 ^ 63 = (a / 2 ^ 63) ^^^ 1 := by rw [Nat.xor_div_two_pow, Nat.div_self (Nat.two_pow_pos 63)]
  have h3 : a / 2 ^ 63 = 0 ∨ a / 2 ^ 63 = 1 := by omega
  generalize a ^^^ 2 ^ 63 = t at h1 h2
  rcases h3 with h3 | h3
  · rw [h3] at h2
    have h2 : t / 2 ^ 63 = 1 := h2
    omega
  · rw [h3] at h2
    have h2 : t / 2 ^ 63 = 0 := h2
    omega
theorem uN_xor (x : Int64) : uN (x ^^^ (-9223372036854775808)) = (uN x + 9223372036854775808) % 18446744073709551616 := by
  rw [← nat_xor (uN_lt x)]
  exact UInt64.toNat_xor _ _
theorem uN_int (x : Int64) : x.toInt = if 2 * uN x < 18446744073709551616 then (uN x : Int) else (uN x : Int) - 18446744073709551616 := BitVec.toInt_eq_toNat_cond _
theorem uN_le (x y : Int64) : (x ^^^ (-9223372036854775808)) ≤ (y ^^^ (-9223372036854775808)) ↔ uN x ≤ uN y := by
  have hx := uN_lt x
  have hy := uN_lt y
  rw [Int64.le_iff_toInt_le, uN_int, uN_int, uN_xor, uN_xor]
  omega
theorem uN_sk (x : Int64) {k : Nat} (hk : k < 64) : uN (x.toUInt64 >>> ((nI k).toInt64.toUInt64 &&& Int64.toUInt64 63)).toInt64 = uN x / 2 ^ k := by
  have h : ((nI k).toInt64.toUInt64 &&& Int64.toUInt64 63).toNat % 64 = k := by
    rw [nI_l (by omega), UInt64.toNat_and]
    have e : (lN k).toUInt64.toNat = k % 2 ^ 64 := rfl
    have e2 : (Int64.toUInt64 63).toNat = 2 ^ 6 - 1 := by decide
    rw [e, e2, Nat.and_two_pow_sub_one_eq_mod]
    omega
  rw [uN_shr, h]
/-! ===== unsigned comparison by xor with the least ===== -/
theorem lN_bv (n : Nat) : (lN n).toBitVec = BitVec.ofNat 64 n := rfl
theorem lN_nat {n : Nat} (h : n < 2 ^ 64) : (lN n).toBitVec.toNat = n := by rw [lN_bv, BitVec.toNat_ofNat]; exact Nat.mod_eq_of_lt h
theorem lN_xor (a b : Nat) : lN a ^^^ lN b = lN (a ^^^ b) := by
  apply Int64.toBitVec_inj.mp; rw [Int64.toBitVec_xor, lN_bv, lN_bv, lN_bv]; apply BitVec.eq_of_getLsbD_eq; intro i hi; simp [BitVec.getLsbD_ofNat, Nat.testBit_xor, hi]
theorem lN_ti {m : Nat} (h : m < 2 ^ 64) : (lN m).toInt = if m < 2 ^ 63 then (m : Int) else (m : Int) - 2 ^ 64 := by
  have c := BitVec.toInt_eq_toNat_cond (lN m).toBitVec
  rw [lN_nat h] at c
  show (lN m).toBitVec.toInt = _
  rw [c]
  split <;> split <;> omega
theorem xor63 {x : Nat} (h : x < 2 ^ 63) : x ^^^ 2 ^ 63 = 2 ^ 63 + x := by
  apply Nat.eq_of_testBit_eq
  intro i
  rw [Nat.testBit_xor, Nat.testBit_two_pow]
  rcases Nat.lt_trichotomy i 63 with z | z | z
  · rw [Nat.testBit_two_pow_add_gt z, decide_eq_false (by omega)]; simp
  · subst z; rw [Nat.testBit_two_pow_add_eq]; simp
  · have hp : 2 ^ 64 ≤ 2 ^ i := Nat.pow_le_pow_right (by decide) z
    rw [Nat.testBit_lt_two_pow (show x < 2 ^ i by omega), Nat.testBit_lt_two_pow (show 2 ^ 63 + x < 2 ^ i by omega), decide_eq_false (by omega)]; rfl
theorem xorS {a : Nat} (h : a < 2 ^ 64) : (lN a ^^^ (-9223372036854775808)).toInt = (a : Int) - 2 ^ 63 := by
  rw [show (-9223372036854775808 : Int64) = lN (2 ^ 63) from by decide +kernel, lN_xor]
  rcases Nat.lt_or_ge a (2 ^ 63) with z | z
  · rw [xor63 z, lN_ti (by omega), if_neg (by omega)]; omega
  · obtain ⟨x, rfl⟩ : ∃ x, a = 2 ^ 63 + x := ⟨a - 2 ^ 63, by omega⟩
    rw [← xor63 (by omega), Nat.xor_assoc, Nat.xor_self, Nat.xor_zero, lN_ti (by omega), if_pos (by omega), xor63 (by omega)]; omega
theorem ultL {a b : Nat} (ha : a < 2 ^ 64) (hb : b < 2 ^ 64) : ((lN b ^^^ (-9223372036854775808)) ≤ (lN a ^^^ (-9223372036854775808))) ↔ b ≤ a := by
  rw [Int64.le_iff_toInt_le, xorS ha, xorS hb]; omega
/-! ===== Int64 masks of n low bits ===== -/
theorem cr_bits (W U M : BitVec 64) : ((W &&& U) &&& (U &&& (M ^^^ BitVec.allOnes 64))) = 0#64 ↔ (W &&& U) &&& M = W &&& U := by
  constructor
  · intro h
    apply BitVec.eq_of_getLsbD_eq
    intro i hi
    have e := congrArg (fun x => BitVec.getLsbD x i) h
    simp only [BitVec.getLsbD_and, BitVec.getLsbD_xor, BitVec.getLsbD_allOnes, BitVec.getLsbD_zero, hi, decide_true] at e ⊢
    revert e
    cases W.getLsbD i <;> cases U.getLsbD i <;> cases M.getLsbD i <;> decide
  · intro h
    apply BitVec.eq_of_getLsbD_eq
    intro i hi
    have e := congrArg (fun x => BitVec.getLsbD x i) h
    simp only [BitVec.getLsbD_and, BitVec.getLsbD_xor, BitVec.getLsbD_allOnes, BitVec.getLsbD_zero, hi, decide_true] at e ⊢
    revert e
    cases W.getLsbD i <;> cases U.getLsbD i <;> cases M.getLsbD i <;> decide
theorem cr_mask (w U m : Int64) (n : Nat) (hm : m.toBitVec.toNat = 2 ^ n - 1) : ((w &&& U) &&& (U &&& (m ^^^ (-1)))) = 0 ↔ (w &&& U).toBitVec.toNat < 2 ^ n := by
  have e0 : (-1 : Int64).toBitVec = BitVec.allOnes 64 := by decide
  have z0 : (0 : Int64).toBitVec = 0#64 := by decide
  rw [← Int64.toBitVec_inj, z0, Int64.toBitVec_and, Int64.toBitVec_and, Int64.toBitVec_and, Int64.toBitVec_xor, e0, cr_bits]
  generalize w.toBitVec &&& U.toBitVec = T
  rw [← BitVec.toNat_inj, BitVec.toNat_and, hm, Nat.and_two_pow_sub_one_eq_mod]
  constructor
  · intro h
    have t := Nat.mod_lt T.toNat (Nat.two_pow_pos n)
    rw [h] at t
    exact t
  · exact Nat.mod_eq_of_lt
theorem cr_shr (t : Int64) (x : UInt64) (n : Nat) (hx : x.toNat % 64 = n) : (t.toUInt64 >>> x).toInt64 = 0 ↔ t.toBitVec.toNat < 2 ^ n := by
  rw [← Int64.toBitVec_inj, ← BitVec.toNat_inj]
  show (t.toUInt64 >>> x).toNat = 0 ↔ t.toUInt64.toNat < 2 ^ n
  rw [UInt64.toNat_shiftRight, hx, Nat.shiftRight_eq_div_pow]
  constructor
  · intro h
    have d : t.toUInt64.toNat / 2 ^ n < 1 := by
      rw [h]
      decide
    have e := (Nat.div_lt_iff_lt_mul (Nat.two_pow_pos n)).mp d
    rw [Nat.one_mul] at e
    exact e
  · exact Nat.div_eq_of_lt
theorem cr_amt (s : Int64) : ∃ n, n < 64 ∧ s &&& 63 = lN n ∧ (s.toUInt64 &&& Int64.toUInt64 63).toNat % 64 = n := by
  have e : (s.toUInt64 &&& Int64.toUInt64 63).toNat = s.toUInt64.toNat % 2 ^ 6 := by
    rw [UInt64.toNat_and, show (Int64.toUInt64 63).toNat = 2 ^ 6 - 1 from by decide, Nat.and_two_pow_sub_one_eq_mod]
  refine ⟨s.toUInt64.toNat % 2 ^ 6, by omega, ?_, by omega⟩
  rw [← Int64.toBitVec_inj, ← BitVec.toNat_inj]
  show (s.toUInt64 &&& Int64.toUInt64 63).toNat = (BitVec.ofNat 64 (s.toUInt64.toNat % 2 ^ 6)).toNat
  rw [e, BitVec.toNat_ofNat]
  omega
end
section
/-! laws of numbers for the methods: remainders, bits of longs -/
theorem nI_m1 (i : Nat) (h : 0 < i) : nI i - nI 1 = nI (i - 1) := pk_sub h
theorem i32_ofInt_of {x : Int32} {z : Int} (h : x.toInt = z) : x = Int32.ofInt z := by rw [← h, Int32.ofInt_toInt]
theorem nI_toI {x : Int32} {n : Nat} (h : x.toInt = (n : Int)) (hn : n < 2 ^ 31) : x = nI n := Int32.toInt_inj.mp (by rw [h, nI_toInt hn])
theorem i32_neg_iff (x : Int32) : x < 0 ↔ x.toInt < 0 := by rw [Int32.lt_iff_toInt_lt]; rfl
theorem i32_ge_iff (x : Int32) : 0 ≤ x ↔ 0 ≤ x.toInt := by rw [Int32.le_iff_toInt_le]; rfl
theorem i32_msb (x : Int32) : x.toBitVec.msb = decide (x.toInt < 0) := by
  rw [BitVec.msb_eq_toInt]; rfl
theorem i32_xor_ge (r y : Int32) (hy : 0 < y.toInt) : 0 ≤ r ^^^ y ↔ 0 ≤ r.toInt := by
  rw [i32_ge_iff]
  have h1 := i32_msb (r ^^^ y)
  rw [Int32.toBitVec_xor, BitVec.msb_xor, i32_msb r, i32_msb y] at h1
  have hy2 : ¬ y.toInt < 0 := by omega
  simp only [hy2, decide_false, Bool.xor_false] at h1
  have h2 : (r.toInt < 0) ↔ ((r ^^^ y).toInt < 0) := by
    constructor <;> intro h <;> simp_all
  omega
/-- the remainder as the machine has it -/
theorem i32_rem_toInt (x y : Int32) (hy : 0 < y.toInt) : (x - x / y * y).toInt = x.toInt.tmod y.toInt := by
  have hx1 := Int32.le_toInt x
  have hx2 := Int32.toInt_lt x
  have hy2 := Int32.toInt_lt y
  have hd : (x / y).toInt = x.toInt.tdiv y.toInt := by
    rw [Int32.toInt_div, Int.bmod_eq_of_le]
    · have h3 : -(2 ^ 31 : Int) ≤ x.toInt.tdiv y.toInt := by
        have := Int.natAbs_tdiv_le_natAbs x.toInt y.toInt
        omega
      omega
    · have h4 : x.toInt.tdiv y.toInt < 2 ^ 31 := by
        rcases Int.lt_or_le x.toInt 0 with h | h
        · have h9 := Int.tdiv_nonneg (a := -x.toInt) (b := y.toInt) (by omega) (by omega)
          rw [Int.neg_tdiv] at h9
          omega
        · have := Int.tdiv_le_self y.toInt h
          omega
      omega
  have he := Int.tmod_add_mul_tdiv x.toInt y.toInt
  have hm1 := Int.lt_tmod_of_pos x.toInt hy
  have hm2 := Int.tmod_lt_of_pos x.toInt hy
  have hmul : (x / y * y).toInt = x.toInt.tdiv y.toInt * y.toInt := by
    rw [Int32.toInt_mul, hd, Int.bmod_eq_of_le]
    · rw [Int.mul_comm]
      rcases Int.lt_or_le x.toInt 0 with h | h
      · have h9 := Int.tmod_nonneg (a := -x.toInt) y.toInt (by omega)
        rw [Int.neg_tmod] at h9
        omega
      · have := Int.tmod_nonneg y.toInt h
        omega
    · rw [Int.mul_comm]
      rcases Int.lt_or_le x.toInt 0 with h | h
      · have h9 := Int.tmod_nonneg (a := -x.toInt) y.toInt (by omega)
        rw [Int.neg_tmod] at h9
        omega
      · have := Int.tmod_nonneg y.toInt h
        omega
  rw [Int32.toInt_sub, hmul, Int.bmod_eq_of_le]
  · rw [Int.mul_comm]; omega
  · rw [Int.mul_comm]; omega
  · rw [Int.mul_comm]; omega
def red (i : Int32) (n : Nat) : Nat := (i.toInt % (n : Int)).toNat
theorem red_lt (i : Int32) {n : Nat} (h : 0 < n) : red i n < n := by
  unfold red
  have h1 := Int.emod_nonneg i.toInt (by omega : (n : Int) ≠ 0)
  have h2 := Int.emod_lt_of_pos i.toInt (by omega : (0 : Int) < n)
  omega
theorem fm_pos {i : Int32} {n : Nat} (h0 : 0 < n) (hn : n < 2 ^ 31) (h : 0 ≤ (i - i / nI n * nI n).toInt) : i - i / nI n * nI n = nI (red i n) := by
  have hy := nI_toInt hn
  have h1 := i32_rem_toInt i (nI n) (by rw [hy]; omega)
  rw [hy] at h1
  have hl := red_lt i h0
  refine nI_toI ?_ (by omega)
  have h3 := Int.emod_nonneg i.toInt (by omega : (n : Int) ≠ 0)
  have h4 : i.toInt.tmod n = i.toInt % n := by
    rw [Int.tmod_eq_emod]
    rw [h1, Int.tmod_eq_emod] at h
    split
    · omega
    · rename_i hc
      rw [if_neg hc] at h
      have := Int.emod_lt_of_pos i.toInt (by omega : (0 : Int) < n)
      omega
  rw [h1, h4]
  unfold red; omega
theorem fm_neg {i : Int32} {n : Nat} (h0 : 0 < n) (hn : n < 2 ^ 31) (h : (i - i / nI n * nI n).toInt < 0) : i - i / nI n * nI n + nI n = nI (red i n) := by
  have hy := nI_toInt hn
  have h1 := i32_rem_toInt i (nI n) (by rw [hy]; omega)
  rw [hy] at h1
  have hl := red_lt i h0
  refine nI_toI ?_ (by omega)
  have h3 := Int.emod_nonneg i.toInt (by omega : (n : Int) ≠ 0)
  have h4 : i.toInt.tmod n = i.toInt % n - n := by
    rw [Int.tmod_eq_emod]
    rw [h1, Int.tmod_eq_emod] at h
    split
    · rename_i hc
      rw [if_pos hc] at h
      omega
    · omega
  have h5 := Int.lt_tmod_of_pos i.toInt (by omega : (0 : Int) < n)
  rw [Int32.toInt_add, h1, hy, Int.bmod_eq_of_le]
  · rw [h4]; unfold red; omega
  · omega
  · omega
end
section
/-! heaps that the machine can't tell apart: arrays that hold the same below their lengths -/
theorem arrV_congr {c N : Nat} {f g : Nat → Value} (h : ∀ j, j < N → f j = g j) : arrV c N f = arrV c N g := by
  unfold arrV
  congr 2
  funext j
  exact h j.val j.isLt
def Sc (c c' : Cel) : Prop := csz c = csz c' ∧ ∀ (X : Ev) (a : Nat) (H : Heap), va_at (ev_D X) cls_ (a, te X c) H ↔ va_at (ev_D X) cls_ (a, te X c') H
def Sm (M M1 : Hp) : Prop := M.length = M1.length ∧ ∀ (i : Nat) (c c' : Cel), M[i]? = some c → M1[i]? = some c' → Sc c c'
theorem Sc.rf (c : Cel) : Sc c c := ⟨rfl, fun _ _ _ => Iff.rfl⟩
theorem Sc.sy {c c' : Cel} (h : Sc c c') : Sc c' c := ⟨h.1.symm, fun X a H => (h.2 X a H).symm⟩
theorem Sm.rf (M : Hp) : Sm M M := ⟨rfl, fun i c c' h h' => by cases h.symm.trans h'; exact Sc.rf c⟩
theorem Sm.sy {M M1 : Hp} (h : Sm M M1) : Sm M1 M := ⟨h.1.symm, fun i c c' h1 h2 => (h.2 i c' c h2 h1).sy⟩
theorem Sm.tr {M M1 M2 : Hp} (h : Sm M M1) (h2 : Sm M1 M2) : Sm M M2 := ⟨h.1.trans h2.1, fun i c c' q q' => by
  have hl : i < M1.length := by rw [← h.1]; exact (List.getElem?_eq_some_iff.mp q).1
  have g1 := h.2 i c _ q (List.getElem?_eq_getElem hl)
  have g2 := h2.2 i _ c' (List.getElem?_eq_getElem hl) q'
  exact ⟨g1.1.trans g2.1, fun X a H => (g1.2 X a H).trans (g2.2 X a H)⟩⟩
theorem Sm.eqs : ∀ {M M1 : Hp}, Sm M M1 → sl M = sl M1
  | [], [], _ => rfl
  | [], _ :: _, h => absurd h.1 (by simp)
  | _ :: _, [], h => absurd h.1 (by simp)
  | c :: M, c' :: M1, h => by
    have h1 := (h.2 0 c c' rfl rfl).1
    have h2 : Sm M M1 := ⟨by simpa using h.1, fun i a b q q' => h.2 (i + 1) a b (by simpa using q) (by simpa using q')⟩
    have h3 := Sm.eqs h2
    simp only [sl, List.map_cons, List.sum_cons] at h3 ⊢
    omega
theorem Sm.P {M M1 : Hp} (h : Sm M M1) {X : Ev} {H : Heap} (hP : va_P (ev_D X) cls_ (ws_ X M) H) : va_P (ev_D X) cls_ (ws_ X M1) H := by
  intro k q hq
  have hl : k < M1.length := by
    have := (List.getElem?_eq_some_iff.mp hq).1
    rwa [ws_len] at this
  have hl2 : k < M.length := by rw [h.1]; exact hl
  rw [ws_get (X := X) (List.getElem?_eq_getElem hl)] at hq
  cases hq
  exact ((h.2 k _ _ (List.getElem?_eq_getElem hl2) (List.getElem?_eq_getElem hl)).2 X _ H).mp (hP k _ (ws_get (X := X) (List.getElem?_eq_getElem hl2)))
theorem Sm.set {M M1 : Hp} (h : Sm M M1) {p : Nat} {c c' : Cel} (hc : Sc c c') : Sm (M.set p c) (M1.set p c') := by
  refine ⟨by simpa using h.1, fun i a b q q' => ?_⟩
  by_cases hp : p = i
  · subst hp
    by_cases hl : p < M.length
    · rw [List.getElem?_set_self hl] at q
      rw [List.getElem?_set_self (by rw [← h.1]; exact hl)] at q'
      cases q; cases q'; exact hc
    · rw [List.getElem?_eq_none (by simp; omega)] at q
      cases q
  · rw [List.getElem?_set_ne hp] at q q'
    exact h.2 i a b q q'
theorem Sm.set1 {M : Hp} {p : Nat} {c c' : Cel} (hc : Sc c c') : Sm (M.set p c) (M.set p c') := (Sm.rf M).set hc
theorem Sc.i {t n : Nat} {f g : Nat → Int32} (h : ∀ j, j < n → f j = g j) : Sc (.inl (t, n, .inl f)) (.inl (t, n, .inl g)) := ⟨rfl, fun X a H => by
  have e : vp_cell (ev_k X t) (n, .inl f) = vp_cell (ev_k X t) (n, .inl g) := by
    rw [vp_cell_i, vp_cell_i]
    exact arrV_congr (fun j hj => by rw [h j hj])
  show H[a]? = some (vp_cell (ev_k X t) (n, .inl f)) ↔ H[a]? = some (vp_cell (ev_k X t) (n, .inl g))
  rw [e]⟩
theorem Sc.l {t n : Nat} {f g : Nat → Int64} (h : ∀ j, j < n → f j = g j) : Sc (.inl (t, n, .inr (.inl f))) (.inl (t, n, .inr (.inl g))) := ⟨rfl, fun X a H => by
  have e : vp_cell (ev_k X t) (n, .inr (.inl f)) = vp_cell (ev_k X t) (n, .inr (.inl g)) := by
    rw [vp_cell_l, vp_cell_l]
    exact arrV_congr (fun j hj => by rw [h j hj])
  show H[a]? = some (vp_cell (ev_k X t) (n, .inr (.inl f))) ↔ H[a]? = some (vp_cell (ev_k X t) (n, .inr (.inl g)))
  rw [e]⟩
section SAME
variable {X : Ev} {d : Nat} {J : Jt} {M0 M M' : Hp} {pc : Nat} {ls : List (Option Value)} {st : List Value} {v : Option Value}
theorem G.same {M1 : Hp} (h : Sm M M1) (k : G X d J M0 pc ls st M1 v M') : G X d J M0 pc ls st M v M' := by
  have e1 := h.1
  have e2 := h.eqs
  refine ⟨⟨by rw [e1]; exact k.1.1, by rw [e2]; exact k.1.2⟩, fun hL p e R s m args below meth c H locs lsM ha hr hb => ?_⟩
  have := k.2 ⟨by rw [← e1]; exact hL.1, by rw [← e2]; exact hL.2⟩ p e R s m args below meth c H locs lsM ha hr ⟨h.P hb.1, hb.2⟩
  rw [← e1, ← e2] at this
  exact this
theorem G.post {M1 : Hp} (h : Sm M1 M') (k : G X d J M0 pc ls st M v M1) : G X d J M0 pc ls st M v M' := by
  have e1 := h.1
  have e2 := h.eqs
  refine ⟨⟨by rw [← e1]; exact k.1.1, by rw [← e2]; exact k.1.2⟩, fun hL p e R s m args below meth c H locs lsM ha hr hb => ?_⟩
  have h3 := k.2 hL p e R s m args below meth c H locs lsM ha (by rw [e1, e2]; exact hr) hb
  intro T hT Y
  obtain ⟨t, s1, o, q1, q2, q3, LL, q4, q5⟩ := h3 T hT Y
  rw [e1, e2] at q4
  exact ⟨t, s1, o, q1, q2, ⟨⟨q3.1.1, h.P q3.1.2⟩, q3.2⟩, LL, q4, q5⟩
end SAME
/-! a method of a class some of whose methods have rows of their own, where this one has none -/
theorem Met.ofWF {l : Launch} {y : MethodName} {ws ws' : List Cond} {rm : Room} {Pc : Array Value → State → Prop} {Qc : Array Value → State → Outcome → State → Prop} {mc ms : Nat} {free : Addr → Prop} {cc : ByteArray} {maxL : Nat} {ret : Option FieldType}
    (hy : plainFor y = true) (hw : ws = Cond.code y cc maxL ret :: ws')
    (body : ∀ p e s m args below meth c s₁, BodyLoose p l y (headSpec ws rm) cc maxL ret e s m args below meth c s₁ → c.maxLocals = maxL → Pc args s →
      W p l e (headSpec ws rm).room s m args below meth c s.heap [] 0 0 (MQ below Qc args s mc ms free) (entryFrame m args maxL)) : Met l y ws rm Pc Qc mc ms free := by
  refine MetFree.of_bodySF (code := cc) (maxLocals := maxL) (ret := ret) hy ?_ ?_
  · intro args s m h hn
    obtain ⟨meth, c, h1, h2, h3, h4, h5, h6, -, -⟩ := Cond.code_spec hn (atoms_spec (ws := ws) h _ (by rw [hw]; exact List.mem_cons_self))
    exact ⟨meth, c, h1, h2, h3, h4, h5, h6⟩
  · intro p e s m args below meth c s₁ B hml hP _
    have hh0 : s₁.heap = s.heap := by rw [B.state]; rfl
    obtain ⟨t, a1, o, b1, b2, b3⟩ := body p e s m args below meth c s₁ B hml hP s₁ hh0 (Stand.of_body B)
    exact ⟨t, o, a1, b1, b2, ⟨b3.1, b3.2⟩⟩
theorem Cl.ofF {X : Ev} {d : Nat} {J : Jt} {M M' : Hp} {ls : List (Option Value)} {v : Option Value} {as : List Value} (hy : plainFor J.1 = true) (hls : lq X 0 ls = lv_args 0 (as.map (tv X))) (hle : (lg_sl (as.map (tv X))).length ≤ J.2.2.1) (k : G X d J M 0 ls [] M v M') : Cl X d J as M v M' := by
  refine ⟨k.1, Met.ofWF (cc := J.2.1) (maxL := J.2.2.1) (ret := J.2.2.2) hy rfl ?_⟩
  intro p e s m args below meth c s₁ B hml hv
  obtain ⟨rfl, hP, hK, hz, hR⟩ := hv
  have hts := atoms_spec (ws := jw J) B.pre
  have hl := lv_entry (as.map (tv X)) (n := J.2.2.1) hle
  rw [lg_entry_eq]
  rw [← hls] at hl
  have h := k.2 (Le.rf M) p e (headSpec (jw J) { frames := d, cells := M'.length - M.length, slots := sl M' - sl M, locals := 28 * d }).room s m (as.map (tv X)).toArray below meth c s.heap [] _
    ⟨B.exec, B.bytes, hml, B.returns, B.notSynchronized, fun hn => ((name_of_methodNamed B.named B.method).1).trans hn, findClass_of_methodNamed B.named, fun w hw => hts w (List.mem_cons_of_mem _ hw), Nat.le_refl _, Nat.le_refl _, hK, hR, hz⟩ ⟨Nat.le_refl _, Nat.le_refl _⟩ ⟨hP, va_S.rf, hl⟩
  rw [Nat.sub_self, Nat.sub_self] at h
  exact h
end
section
theorem c_floorMod {X : Ev} {M : Hp} {i : Int32} {n : Nat} (h0 : 0 < n) (hn : n < 2 ^ 31) : Cl X 0 jJ9_floorMod_7cf53 [.int i, .int (nI n)] M (some (.int (nI (red i n)))) M := by
  refine Cl.ofF (ls := [some (.int (i)), some (.int (nI n)), none]) (by decide +kernel) rfl (Nat.le_of_ble_eq_true rfl) ?_
  have hyp : 0 < (nI n).toInt := by rw [nI_toInt hn]; omega
  have hrem := i32_rem_toInt i (nI n) hyp
  refine x_iload_n dJ9_floorMod_7cf53_0 rfl rfl ?_
  refine x_iload_n dJ9_floorMod_7cf53_1 rfl rfl ?_
  refine x_irem dJ9_floorMod_7cf53_2 (nI_ne0 h0 hn) ?_
  refine x_istore_n (ls' := [some (.int (i)), some (.int (nI n)), some (.int ((i) - (i) / (nI n) * (nI n)))]) dJ9_floorMod_7cf53_3 rfl (by decide) rfl rfl ?_
  refine x_iload_n dJ9_floorMod_7cf53_4 rfl rfl ?_
  refine x_iload_n dJ9_floorMod_7cf53_5 rfl rfl ?_
  refine x_ixor dJ9_floorMod_7cf53_6 ?_
  refine x_if_ge (tgt := 18) dJ9_floorMod_7cf53_7 (by decide) (fun h7 => ?_) (fun h7 => ?_)
  · refine x_iload_n dJ9_floorMod_7cf53_18 rfl rfl ?_
    exact x_ireturn_eq dJ9_floorMod_7cf53_19 rfl (fm_pos h0 hn (by first | (rw [h11]; decide) | (rw [hrem]; exact Int.tmod_nonneg _ ((i32_xor_ge i (nI n) hyp).mp h7))))
  · have h8 : i.toInt < 0 := Int.not_le.mp (fun z => h7 ((i32_xor_ge i (nI n) hyp).mpr z))
    have h9 : (i - i / nI n * nI n).toInt ≤ 0 := by
      have := Int.tmod_nonneg (a := -i.toInt) (nI n).toInt (by omega)
      rw [Int.neg_tmod] at this
      rw [hrem]; omega
    refine x_iload_n dJ9_floorMod_7cf53_10 rfl rfl ?_
    refine x_if_eq (tgt := 18) dJ9_floorMod_7cf53_11 (by decide) (fun h11 => ?_) (fun h11 => ?_)
    · refine x_iload_n dJ9_floorMod_7cf53_18 rfl rfl ?_
      exact x_ireturn_eq dJ9_floorMod_7cf53_19 rfl (fm_pos h0 hn (by first | (rw [h11]; decide) | (rw [hrem]; exact Int.tmod_nonneg _ ((i32_xor_ge i (nI n) hyp).mp h7))))
    · refine x_iload_n dJ9_floorMod_7cf53_14 rfl rfl ?_
      refine x_iload_n dJ9_floorMod_7cf53_15 rfl rfl ?_
      refine x_iadd dJ9_floorMod_7cf53_16 ?_
      exact x_ireturn_eq dJ9_floorMod_7cf53_17 rfl (fm_neg h0 hn (by have : (i - i / nI n * nI n).toInt ≠ 0 := fun z => h11 (Int32.toInt_inj.mp z); omega))
theorem c_min {X : Ev} {M : Hp} {a b : Nat} (ha : a < 2 ^ 31) (hb : b < 2 ^ 31) : Cl X 0 jJ9_min_7cf53 [.int (nI a), .int (nI b)] M (some (.int (nI (min a b)))) M := by
  refine Cl.ofF (ls := [some (.int (nI a)), some (.int (nI b))]) (by decide +kernel) rfl (Nat.le_of_ble_eq_true rfl) ?_
  refine x_iload_n dJ9_min_7cf53_0 rfl rfl ?_
  refine x_iload_n dJ9_min_7cf53_1 rfl rfl ?_
  refine x_icmp_gt (tgt := 9) dJ9_min_7cf53_2 (by decide) (fun h2 => ?_) (fun h2 => ?_)
  · refine x_iload_n dJ9_min_7cf53_9 rfl rfl ?_
    exact x_ireturn_eq dJ9_min_7cf53_10 rfl (by rw [Nat.min_eq_right]; have := (nI_ltI hb ha).mp h2; omega)
  · refine x_iload_n dJ9_min_7cf53_5 rfl rfl ?_
    refine x_goto (tgt := 10) dJ9_min_7cf53_6 (by decide) ?_
    exact x_ireturn_eq dJ9_min_7cf53_10 rfl (by rw [Nat.min_eq_left]; have := (nI_ltI hb ha).mpr; exact Nat.le_of_not_lt (fun z => h2 (this z)))
theorem fill_step {x : Int32} {f : Nat → Int32} {i : Nat} : upd (fun j => if j < i then x else f j) i x = (fun j => if j < i + 1 then x else f j) := by
  funext j
  by_cases h : j = i
  · subst h; simp [upd]
  · rw [pk_un h]; by_cases h2 : j < i
    · show (if j < i then x else f j) = _; rw [if_pos h2, if_pos (by omega)]
    · show (if j < i then x else f j) = _; rw [if_neg h2, if_neg (by omega)]
theorem fill_stepL {x : Int64} {f : Nat → Int64} {i : Nat} : vp_updL (fun j => if j < i then x else f j) i x = (fun j => if j < i + 1 then x else f j) := by
  funext j
  by_cases h : j = i
  · subst h; simp [vp_updL]
  · rw [pk_uLn h]; by_cases h2 : j < i
    · show (if j < i then x else f j) = _; rw [if_pos h2, if_pos (by omega)]
    · show (if j < i then x else f j) = _; rw [if_neg h2, if_neg (by omega)]
theorem set_id {M : Hp} {a : Nat} {c c' : Cel} (h : M[a]? = some c) (e : c' = c) : M = M.set a c' := by
  subst e
  apply List.ext_getElem?
  intro j
  by_cases hj : a = j
  · subst hj; rw [gs h, h]
  · rw [List.getElem?_set_ne hj]
theorem Sc.i0 {t n : Nat} {x : Int32} {f : Nat → Int32} : (.inl (t, n, .inl (fun j => if j < 0 then x else f j)) : Cel) = .inl (t, n, .inl f) := by
  have e : (fun j => if j < 0 then x else f j) = f := by funext j; simp
  rw [e]
theorem Sc.l0 {t n : Nat} {x : Int64} {f : Nat → Int64} : (.inl (t, n, .inr (.inl (fun j => if j < 0 then x else f j))) : Cel) = .inl (t, n, .inr (.inl f)) := by
  have e : (fun j => if j < 0 then x else f j) = f := by funext j; simp
  rw [e]
theorem lp_filli {X : Ev} {d : Nat} {M0 M M' : Hp} {v : Option Value} {a n : Nat} {x : Int32} {f : Nat → Int32} (hM : M[a]? = some (.inl (0, n, .inl (f)))) (hn : n < 2 ^ 31) (k : G X d jJ7_fill_53178 M0 20 [some (.ref (a)), some (.int (x)), some (.int (nI n)), some (.int (nI n))] [] (M.set a (.inl (0, n, .inl (fun j => if j < n then x else f j)))) v M') :
    ∀ (r i : Nat), i + r = n → G X d jJ7_fill_53178 M0 5 [some (.ref (a)), some (.int (x)), some (.int (nI i)), some (.int (nI n))] [] (M.set a (.inl (0, n, .inl (fun j => if j < i then x else f j)))) v M' := by
  intro r
  induction r with
  | zero =>
    intro i hi
    have hi : i = n := by omega
    subst hi
    refine x_iload_n dJ7_fill_53178_5 rfl rfl ?_
    refine x_iload_n dJ7_fill_53178_6 rfl rfl ?_
    refine x_icmp_ge (tgt := 20) dJ7_fill_53178_7 (by decide) (fun _ => ?_) (fun h => False.elim (h (nI_le (Nat.le_refl _) hn)))
    exact k
  | succ r ih =>
    intro i hi
    refine x_iload_n dJ7_fill_53178_5 rfl rfl ?_
    refine x_iload_n dJ7_fill_53178_6 rfl rfl ?_
    refine x_icmp_ge (tgt := 20) dJ7_fill_53178_7 (by decide) (fun h => False.elim (nI_ge (by omega : i < n) hn h)) (fun _ => ?_)
    refine x_aload_n dJ7_fill_53178_10 rfl rfl ?_
    refine x_iload_n dJ7_fill_53178_11 rfl rfl ?_
    refine x_iload_n dJ7_fill_53178_12 rfl rfl ?_
    refine x_ist (j := i) (M1 := (M.set (a) (.inl (0, n, .inl (fun j => if j < i + 1 then x else f j))))) dJ7_fill_53178_13 (gs hM) rfl (by omega) hn (by rw [show upd (fun j => if j < i then x else f j) (i) (x) = (fun j => if j < i + 1 then x else f j) from fill_step]; exact (ss0)) ?_
    refine x_iinc (y := nI (i + 1)) (ls' := [some (.ref (a)), some (.int (x)), some (.int (nI (i + 1))), some (.int (nI n))]) dJ7_fill_53178_14 (by decide) rfl rfl (ii_add _ 1) rfl ?_
    refine x_goto (tgt := 5) dJ7_fill_53178_17 (by decide) ?_
    exact ih (i + 1) (by omega)
theorem c_filli {X : Ev} {M : Hp} {a n : Nat} {x : Int32} {f : Nat → Int32} (hM : M[a]? = some (.inl (0, n, .inl (f)))) (hn : n < 2 ^ 31) : Cl X 0 jJ7_fill_53178 [.ref a, .int x] M none (M.set a (.inl (0, n, .inl (fun _ => x)))) := by
  refine Cl.of (ls := [some (.ref (a)), some (.int (x)), none, none]) (by decide) rfl (Nat.le_of_ble_eq_true rfl) ?_
  refine x_iconst (y := nI 0) dJ7_fill_53178_0 rfl ?_
  refine x_istore_n (ls' := [some (.ref (a)), some (.int (x)), some (.int (nI 0)), none]) dJ7_fill_53178_1 rfl (by decide) rfl rfl ?_
  refine x_aload_n dJ7_fill_53178_2 rfl rfl ?_
  refine x_alen dJ7_fill_53178_3 (by decide) hM rfl ?_
  refine x_istore_n (ls' := [some (.ref (a)), some (.int (x)), some (.int (nI 0)), some (.int (nI n))]) dJ7_fill_53178_4 rfl (by decide) rfl rfl ?_
  refine G.hp (set_id hM (Sc.i0 (x := x) (f := f))) (lp_filli hM hn (G.post (Sm.set1 (Sc.i (fun j hj => if_pos hj))) (x_ret dJ7_fill_53178_20 rfl)) n 0 (by omega))
theorem lp_filll {X : Ev} {d : Nat} {M0 M M' : Hp} {v : Option Value} {a n : Nat} {x : Int64} {f : Nat → Int64} (hM : M[a]? = some (.inl (1, n, .inr (.inl (f))))) (hn : n < 2 ^ 31) (k : G X d jJ7_fill_d0a16 M0 22 [some (.ref (a)), some (.long (x)), none, some (.int (nI n)), some (.int (nI n))] [] (M.set a (.inl (1, n, .inr (.inl (fun j => if j < n then x else f j))))) v M') :
    ∀ (r i : Nat), i + r = n → G X d jJ7_fill_d0a16 M0 6 [some (.ref (a)), some (.long (x)), none, some (.int (nI i)), some (.int (nI n))] [] (M.set a (.inl (1, n, .inr (.inl (fun j => if j < i then x else f j))))) v M' := by
  intro r
  induction r with
  | zero =>
    intro i hi
    have hi : i = n := by omega
    subst hi
    refine x_iload_n dJ7_fill_d0a16_6 rfl rfl ?_
    refine x_iload dJ7_fill_d0a16_7 rfl ?_
    refine x_icmp_ge (tgt := 22) dJ7_fill_d0a16_9 (by decide) (fun _ => ?_) (fun h => False.elim (h (nI_le (Nat.le_refl _) hn)))
    exact k
  | succ r ih =>
    intro i hi
    refine x_iload_n dJ7_fill_d0a16_6 rfl rfl ?_
    refine x_iload dJ7_fill_d0a16_7 rfl ?_
    refine x_icmp_ge (tgt := 22) dJ7_fill_d0a16_9 (by decide) (fun h => False.elim (nI_ge (by omega : i < n) hn h)) (fun _ => ?_)
    refine x_aload_n dJ7_fill_d0a16_12 rfl rfl ?_
    refine x_iload_n dJ7_fill_d0a16_13 rfl rfl ?_
    refine x_lload_n dJ7_fill_d0a16_14 rfl rfl ?_
    refine x_lst (j := i) (M1 := (M.set (a) (.inl (1, n, .inr (.inl (fun j => if j < i + 1 then x else f j)))))) dJ7_fill_d0a16_15 (gs hM) rfl (by omega) hn (by rw [show vp_updL (fun j => if j < i then x else f j) (i) (x) = (fun j => if j < i + 1 then x else f j) from fill_stepL]; exact (ss0)) ?_
    refine x_iinc (y := nI (i + 1)) (ls' := [some (.ref (a)), some (.long (x)), none, some (.int (nI (i + 1))), some (.int (nI n))]) dJ7_fill_d0a16_16 (by decide) rfl rfl (ii_add _ 1) rfl ?_
    refine x_goto (tgt := 6) dJ7_fill_d0a16_19 (by decide) ?_
    exact ih (i + 1) (by omega)
theorem c_filll {X : Ev} {M : Hp} {a n : Nat} {x : Int64} {f : Nat → Int64} (hM : M[a]? = some (.inl (1, n, .inr (.inl (f))))) (hn : n < 2 ^ 31) : Cl X 0 jJ7_fill_d0a16 [.ref a, .long x] M none (M.set a (.inl (1, n, .inr (.inl (fun _ => x))))) := by
  refine Cl.of (ls := [some (.ref (a)), some (.long (x)), none, none, none]) (by decide) rfl (Nat.le_of_ble_eq_true rfl) ?_
  refine x_iconst (y := nI 0) dJ7_fill_d0a16_0 rfl ?_
  refine x_istore_n (ls' := [some (.ref (a)), some (.long (x)), none, some (.int (nI 0)), none]) dJ7_fill_d0a16_1 rfl (by decide) rfl rfl ?_
  refine x_aload_n dJ7_fill_d0a16_2 rfl rfl ?_
  refine x_alen dJ7_fill_d0a16_3 (by decide) hM rfl ?_
  refine x_istore (ls' := [some (.ref (a)), some (.long (x)), none, some (.int (nI 0)), some (.int (nI n))]) dJ7_fill_d0a16_4 (by decide) rfl rfl ?_
  refine G.hp (set_id hM (Sc.l0 (x := x) (f := f))) (lp_filll hM hn (G.post (Sm.set1 (Sc.l (fun j hj => if_pos hj))) (x_ret dJ7_fill_d0a16_22 rfl)) n 0 (by omega))
end
section
/-! how many bits of a long are 1: what Long.bitCount computes -/
def cnt (p : Nat → Bool) : Nat → Nat
  | 0 => 0
  | n + 1 => cnt p n + (if p n then 1 else 0)
theorem cnt_congr {p q : Nat → Bool} : ∀ (n : Nat), (∀ j, j < n → p j = q j) → cnt p n = cnt q n
  | 0, _ => rfl
  | n + 1, h => by
    show cnt p n + _ = cnt q n + _
    rw [cnt_congr n (fun j hj => h j (by omega)), h n (by omega)]
theorem cnt_le (p : Nat → Bool) : ∀ n, cnt p n ≤ n
  | 0 => Nat.le_refl 0
  | n + 1 => by
    have := cnt_le p n
    show cnt p n + _ ≤ n + 1
    split <;> omega
theorem cnt_add (p : Nat → Bool) (a : Nat) : ∀ b, cnt p (a + b) = cnt p a + cnt (fun j => p (a + j)) b
  | 0 => rfl
  | b + 1 => by
    show cnt p (a + b) + _ = cnt p a + (cnt (fun j => p (a + j)) b + _)
    rw [cnt_add p a b, Nat.add_assoc]; rfl
def bw (g : Nat → Nat) : Nat → Nat → Nat
  | 0, _ => 0
  | k + 1, x => g (x % 256) + 256 * bw g k (x / 256)
theorem bw_id : ∀ (k x : Nat), x < 256 ^ k → bw (fun c => c) k x = x
  | 0, x, h => by simp at h; subst h; rfl
  | k + 1, x, h => by
    show x % 256 + 256 * bw _ k (x / 256) = x
    rw [bw_id k (x / 256) (by rw [Nat.pow_succ] at h; omega)]
    omega
theorem bw_lt {g : Nat → Nat} (hg : ∀ c, c < 256 → g c < 256) : ∀ (k x : Nat), bw g k x < 256 ^ k
  | 0, x => by simp [bw]
  | k + 1, x => by
    have h1 := bw_lt hg k (x / 256)
    have h2 := hg (x % 256) (by omega)
    show g (x % 256) + 256 * bw g k (x / 256) < 256 ^ (k + 1)
    rw [Nat.pow_succ]
    omega
theorem bw_mod {g : Nat → Nat} (hg : ∀ c, c < 256 → g c < 256) (k x : Nat) : bw g (k + 1) x % 256 = g (x % 256) ∧ bw g (k + 1) x / 256 = bw g k (x / 256) := by
  have h2 := hg (x % 256) (by omega)
  show (g (x % 256) + 256 * bw g k (x / 256)) % 256 = _ ∧ (g (x % 256) + 256 * bw g k (x / 256)) / 256 = _
  omega
theorem bw_bw {f g : Nat → Nat} (hg : ∀ c, c < 256 → g c < 256) : ∀ (k x : Nat), bw f k (bw g k x) = bw (fun c => f (g c)) k x
  | 0, x => rfl
  | k + 1, x => by
    have h := bw_mod hg k x
    show f (bw g (k + 1) x % 256) + 256 * bw f k (bw g (k + 1) x / 256) = _
    rw [h.1, h.2, bw_bw hg k (x / 256)]
    rfl
theorem bw_sub {f g : Nat → Nat} (h : ∀ c, c < 256 → g c ≤ f c) : ∀ (k x : Nat), bw f k x - bw g k x = bw (fun c => f c - g c) k x ∧ bw g k x ≤ bw f k x
  | 0, x => ⟨rfl, Nat.le_refl _⟩
  | k + 1, x => by
    have h1 := bw_sub h k (x / 256)
    have h2 := h (x % 256) (by omega)
    show (f (x % 256) + 256 * bw f k (x / 256)) - (g (x % 256) + 256 * bw g k (x / 256)) = (f (x % 256) - g (x % 256)) + 256 * bw _ k (x / 256) ∧ _ ≤ f (x % 256) + 256 * bw f k (x / 256)
    rw [← h1.1]
    refine ⟨by omega, ?_⟩
    show g (x % 256) + 256 * bw g k (x / 256) ≤ _
    omega
theorem bw_sum {f g : Nat → Nat} : ∀ (k x : Nat), bw f k x + bw g k x = bw (fun c => f c + g c) k x
  | 0, x => rfl
  | k + 1, x => by
    have h1 := bw_sum (f := f) (g := g) k (x / 256)
    show (f (x % 256) + 256 * bw f k (x / 256)) + (g (x % 256) + 256 * bw g k (x / 256)) = (f (x % 256) + g (x % 256)) + 256 * bw _ k (x / 256)
    rw [← h1]
    omega
theorem bw_congr {f g : Nat → Nat} (h : ∀ c, c < 256 → f c = g c) : ∀ (k x : Nat), bw f k x = bw g k x
  | 0, x => rfl
  | k + 1, x => by
    show f (x % 256) + 256 * bw f k (x / 256) = g (x % 256) + 256 * bw g k (x / 256)
    rw [h _ (by omega), bw_congr h k]
theorem and_split {a b c e : Nat} (ha : a < 256) (hc : c < 256) : (a + 256 * b) &&& (c + 256 * e) = (a &&& c) + 256 * (b &&& e) := by
  have hac : a &&& c < 256 := Nat.lt_of_le_of_lt Nat.and_le_left ha
  apply Nat.eq_of_testBit_eq
  intro i
  rw [Nat.add_comm a, Nat.add_comm c, Nat.add_comm (a &&& c), show (256 : Nat) = 2 ^ 8 from rfl, Nat.testBit_and, Nat.testBit_two_pow_mul_add _ ha, Nat.testBit_two_pow_mul_add _ hc, Nat.testBit_two_pow_mul_add _ hac]
  split
  · rw [Nat.testBit_and]
  · rw [Nat.testBit_and]
/-- a mask of the same byte k times -/
def mk8 (c : Nat) : Nat → Nat
  | 0 => 0
  | k + 1 => c + 256 * mk8 c k
theorem bw_sh2 : ∀ (k x : Nat), x < 256 ^ k → (x / 2) &&& mk8 85 k = bw (fun z => (z / 2) &&& 85) k x
  | 0, x, h => by simp at h; subst h; simp [mk8, bw]
  | k + 1, x, h => by
    have ih := bw_sh2 k (x / 256) (by rw [Nat.pow_succ] at h; omega)
    have hx : x / 2 = (x % 256 / 2 + 128 * (x / 256 % 2)) + 256 * (x / 256 / 2) := by omega
    have hl : x % 256 / 2 + 128 * (x / 256 % 2) < 256 := by omega
    have hm : ∀ u, u < 128 → ∀ t, t < 2 → (u + 128 * t) &&& 85 = u &&& 85 := by decide
    show (x / 2) &&& (85 + 256 * mk8 85 k) = (x % 256 / 2 &&& 85) + 256 * bw _ k (x / 256)
    rw [hx, and_split hl (by decide), ih, hm _ (by omega) _ (by omega)]
theorem bw_sh4 : ∀ (k x : Nat), x < 256 ^ k → (x / 4) &&& mk8 51 k = bw (fun z => (z / 4) &&& 51) k x
  | 0, x, h => by simp at h; subst h; simp [mk8, bw]
  | k + 1, x, h => by
    have ih := bw_sh4 k (x / 256) (by rw [Nat.pow_succ] at h; omega)
    have hx : x / 4 = (x % 256 / 4 + 64 * (x / 256 % 4)) + 256 * (x / 256 / 4) := by omega
    have hl : x % 256 / 4 + 64 * (x / 256 % 4) < 256 := by omega
    have hm : ∀ u, u < 64 → ∀ t, t < 4 → (u + 64 * t) &&& 51 = u &&& 51 := by decide
    show (x / 4) &&& (51 + 256 * mk8 51 k) = (x % 256 / 4 &&& 51) + 256 * bw _ k (x / 256)
    rw [hx, and_split hl (by decide), ih, hm _ (by omega) _ (by omega)]
theorem bw_sh1 : ∀ (k x : Nat), x < 256 ^ k → (x / 1) &&& mk8 51 k = bw (fun z => (z / 1) &&& 51) k x
  | 0, x, h => by simp at h; subst h; simp [mk8, bw]
  | k + 1, x, h => by
    have ih := bw_sh1 k (x / 256) (by rw [Nat.pow_succ] at h; omega)
    have hx : x / 1 = (x % 256 / 1 + 256 * (x / 256 % 1)) + 256 * (x / 256 / 1) := by omega
    have hl : x % 256 / 1 + 256 * (x / 256 % 1) < 256 := by omega
    have hm : ∀ u, u < 256 → ∀ t, t < 1 → (u + 256 * t) &&& 51 = u &&& 51 := fun u _ t ht => by
      have h0 : t = 0 := by omega
      subst h0; rfl
    show (x / 1) &&& (51 + 256 * mk8 51 k) = (x % 256 / 1 &&& 51) + 256 * bw _ k (x / 256)
    rw [hx, and_split hl (by decide), ih, hm _ (by omega) _ (by omega)]
theorem bw_sh16 : ∀ (k x : Nat), x < 256 ^ k → (∀ y : Nat, y = y) → (∀ j, x / 256 ^ j % 256 ≤ 68 ∧ x / 256 ^ j % 16 ≤ 4) → (x + x / 16) &&& mk8 15 k = bw (fun z => (z + z / 16) &&& 15) k x
  | 0, x, h, _, _ => by simp at h; subst h; simp [mk8, bw]
  | k + 1, x, h, h0, hd => by
    have ih := bw_sh16 k (x / 256) (by rw [Nat.pow_succ] at h; omega) h0 (fun j => by
      have := hd (j + 1)
      rw [Nat.pow_succ, Nat.mul_comm, ← Nat.div_div_eq_div_mul] at this
      exact this)
    have d0 := hd 0
    have d1 := hd 1
    simp only [Nat.pow_zero, Nat.div_one, Nat.pow_one] at d0 d1
    have hx : x + x / 16 = (x % 256 + x % 256 / 16 + 16 * (x / 256 % 16)) + 256 * (x / 256 + x / 256 / 16) := by omega
    have hl : x % 256 + x % 256 / 16 + 16 * (x / 256 % 16) < 256 := by omega
    have hm : ∀ u, u < 128 → ∀ t, t < 16 → (u + 16 * t) &&& 15 = u &&& 15 := by decide
    show (x + x / 16) &&& (15 + 256 * mk8 15 k) = ((x % 256 + x % 256 / 16) &&& 15) + 256 * bw _ k (x / 256)
    rw [hx, and_split hl (by decide), ih, hm _ (by omega) _ (by omega)]
theorem bw_dig {g : Nat → Nat} (hg : ∀ c, c < 256 → g c < 256) : ∀ (j k x : Nat), bw g k x / 256 ^ j % 256 = 0 ∨ ∃ c, c < 256 ∧ bw g k x / 256 ^ j % 256 = g c
  | j, 0, x => by left; simp [bw]
  | 0, k + 1, x => by
    right
    exact ⟨x % 256, by omega, by rw [Nat.pow_zero, Nat.div_one]; exact (bw_mod hg k x).1⟩
  | j + 1, k + 1, x => by
    rw [Nat.pow_succ, Nat.mul_comm, ← Nat.div_div_eq_div_mul, (bw_mod hg k x).2]
    exact bw_dig hg j k (x / 256)
def p8 (c : Nat) : Nat := cnt c.testBit 8
theorem cnt_bw : ∀ (k x : Nat), cnt x.testBit (8 * k) = (if k = 0 then 0 else p8 (x % 256) + cnt (x / 256).testBit (8 * (k - 1)))
  | 0, x => rfl
  | k + 1, x => by
    rw [if_neg (by omega), show 8 * (k + 1) = 8 + 8 * k by omega, cnt_add]
    congr 1
    · unfold p8
      exact cnt_congr 8 (fun j hj => by rw [show (256 : Nat) = 2 ^ 8 from rfl, Nat.testBit_mod_two_pow]; simp [hj])
    · exact cnt_congr _ (fun j hj => by rw [show (256 : Nat) = 2 ^ 8 from rfl, Nat.testBit_div_two_pow, Nat.add_comm])
def pc64 (x : Int64) : Nat := cnt (uN x).testBit 64
theorem uN_and (x y : Int64) : uN (x &&& y) = uN x &&& uN y := by
  show (x.toUInt64 &&& y.toUInt64).toNat = _
  exact UInt64.toNat_and _ _
theorem uN_sub {x y : Int64} (h : uN y ≤ uN x) : uN (x - y) = uN x - uN y := by
  show (x.toUInt64 - y.toUInt64).toNat = _
  exact UInt64.toNat_sub_of_le _ _ (UInt64.le_iff_toNat_le.mpr h)
theorem uN_i32 (x : Int64) : x.toInt32 = nI (uN x) := by
  apply Int32.toBitVec_inj.mp
  apply BitVec.eq_of_toNat_eq
  show (x.toBitVec.signExtend 32).toNat = _
  have e : (nI (uN x)).toBitVec.toNat = uN x % 2 ^ 32 := by
    show (BitVec.ofNat 32 (uN x)).toNat = _
    rw [BitVec.toNat_ofNat]
  rw [e, BitVec.signExtend_eq_setWidth_of_le _ (by decide), BitVec.toNat_setWidth]
  rfl

theorem uN_65 : uN 6148914691236517205 = mk8 0x55 8 := by decide +kernel
theorem uN_33 : uN 3689348814741910323 = mk8 0x33 8 := by decide +kernel
theorem uN_0f : uN 1085102592571150095 = mk8 15 8 := by decide +kernel
def bA (c : Nat) : Nat := c - (c / 2 &&& 0x55)
def bB (c : Nat) : Nat := (bA c / 1 &&& 0x33) + (bA c / 4 &&& 0x33)
def bC (c : Nat) : Nat := (bB c + bB c / 16) &&& 15
theorem b8 : ∀ c, c < 256 → bA c < 256 ∧ (c / 2 &&& 0x55) ≤ c ∧ bB c ≤ 68 ∧ bB c % 16 ≤ 4 ∧ bC c = p8 c ∧ bC c ≤ 8 := by decide +kernel
theorem popN (n : Nat) (hn : n < 256 ^ 8) : ∃ a b c : Nat, n - (n / 2 &&& mk8 0x55 8) = a ∧ (n / 2 &&& mk8 0x55 8) ≤ n ∧ a < 256 ^ 8 ∧ (a &&& mk8 0x33 8) + (a / 4 &&& mk8 0x33 8) = b ∧ b ≤ mk8 68 8 ∧ (b + b / 16) &&& mk8 15 8 = c ∧ c = bw p8 8 n := by
  have h1 := bw_sh2 8 n hn
  have h2 := bw_id 8 n hn
  have h3 := bw_sub (f := fun c => c) (g := fun z => z / 2 &&& 0x55) (fun c hc => (b8 c hc).2.1) 8 n
  have hA : n - (n / 2 &&& mk8 0x55 8) = bw bA 8 n := by
    rw [h1]
    rw [h2] at h3
    exact h3.1
  have hAl : bw bA 8 n < 256 ^ 8 := bw_lt (fun c hc => (b8 c hc).1) 8 n
  have hB : (bw bA 8 n &&& mk8 0x33 8) + (bw bA 8 n / 4 &&& mk8 0x33 8) = bw bB 8 n := by
    have e1 := bw_sh1 8 (bw bA 8 n) hAl
    have e2 := bw_sh4 8 (bw bA 8 n) hAl
    rw [Nat.div_one] at e1
    rw [e1, e2, bw_sum, bw_bw (fun c hc => (b8 c hc).1)]
    rfl
  have hBb : ∀ c, c < 256 → bB c < 256 := fun c hc => Nat.lt_of_le_of_lt (b8 c hc).2.2.1 (by decide)
  have hBl : bw bB 8 n < 256 ^ 8 := bw_lt hBb 8 n
  have hC : (bw bB 8 n + bw bB 8 n / 16) &&& mk8 15 8 = bw p8 8 n := by
    rw [bw_sh16 8 _ hBl (fun _ => rfl) (fun j => ?_), bw_bw hBb]
    · exact bw_congr (fun c hc => (b8 c hc).2.2.2.2.1) 8 n
    · rcases bw_dig hBb j 8 n with h | ⟨c, hc, h⟩
      · omega
      · have h5 := (b8 c hc).2.2.1
        have h6 := (b8 c hc).2.2.2.1
        have h7 : bw bB 8 n / 256 ^ j % 16 = bw bB 8 n / 256 ^ j % 256 % 16 := by omega
        rw [h7, h]
        exact ⟨h5, h6⟩
  have hle : ∀ (k x : Nat), bw bB k x ≤ mk8 68 k := by
    intro k
    induction k with
    | zero => intro x; exact Nat.le_refl _
    | succ k ih =>
      intro x
      have h8 := ih (x / 256)
      have h9 := (b8 (x % 256) (by omega)).2.2.1
      show bB (x % 256) + 256 * bw bB k (x / 256) ≤ 68 + 256 * mk8 68 k
      omega
  exact ⟨_, _, _, hA, by rw [h1]; rw [h2] at h3; exact h3.2, hAl, hB, hle 8 n, hC, rfl⟩
theorem pop_sum (n : Nat) : ∃ d0 d1 d2 d3 d4 d5 d6 d7 : Nat, d0 ≤ 8 ∧ d1 ≤ 8 ∧ d2 ≤ 8 ∧ d3 ≤ 8 ∧ d4 ≤ 8 ∧ d5 ≤ 8 ∧ d6 ≤ 8 ∧ d7 ≤ 8 ∧ bw p8 8 n = d0 + 256 * (d1 + 256 * (d2 + 256 * (d3 + 256 * (d4 + 256 * (d5 + 256 * (d6 + 256 * d7)))))) ∧ cnt n.testBit 64 = d0 + d1 + d2 + d3 + d4 + d5 + d6 + d7 := by
  have hp : ∀ x, p8 (x % 256) ≤ 8 := fun x => cnt_le _ 8
  refine ⟨p8 (n % 256), p8 (n / 256 % 256), p8 (n / 256 / 256 % 256), p8 (n / 256 / 256 / 256 % 256), p8 (n / 256 / 256 / 256 / 256 % 256), p8 (n / 256 / 256 / 256 / 256 / 256 % 256), p8 (n / 256 / 256 / 256 / 256 / 256 / 256 % 256), p8 (n / 256 / 256 / 256 / 256 / 256 / 256 / 256 % 256), hp _, hp _, hp _, hp _, hp _, hp _, hp _, hp _, ?_, ?_⟩
  · simp only [bw, Nat.mul_zero, Nat.add_zero]
  · have e := cnt_bw 8 n
    rw [if_neg (by decide)] at e
    rw [show (64 : Nat) = 8 * 8 from rfl, e, show 8 - 1 = 7 from rfl, cnt_bw 7, if_neg (by decide), show 7 - 1 = 6 from rfl, cnt_bw 6, if_neg (by decide), show 6 - 1 = 5 from rfl, cnt_bw 5, if_neg (by decide), show 5 - 1 = 4 from rfl, cnt_bw 4, if_neg (by decide), show 4 - 1 = 3 from rfl, cnt_bw 3, if_neg (by decide), show 3 - 1 = 2 from rfl, cnt_bw 2, if_neg (by decide), show 2 - 1 = 1 from rfl, cnt_bw 1, if_neg (by decide), show 1 - 1 = 0 from rfl]
    simp only [Nat.mul_zero, cnt]
    omega
theorem bc_num {d0 d1 d2 d3 d4 d5 d6 d7 r1 r2 r3 r4 r5 r6 c e f g : Nat} (h0 : d0 ≤ 8) (h1 : d1 ≤ 8) (h2 : d2 ≤ 8) (h3 : d3 ≤ 8) (h4 : d4 ≤ 8) (h5 : d5 ≤ 8) (h6 : d6 ≤ 8) (h7 : d7 ≤ 8) (e6 : r6 = d6 + 256 * d7) (e5 : r5 = d5 + 256 * r6) (e4 : r4 = d4 + 256 * r5) (e3 : r3 = d3 + 256 * r4) (e2 : r2 = d2 + 256 * r3) (e1 : r1 = d1 + 256 * r2) (e0 : c = d0 + 256 * r1) (he : e = c + c / 256) (hf : f = e + e / 65536) (hg : g = f + f / 4294967296) :
    c ≤ 578721382704613384 ∧ e < 1297036692682702849 ∧ f < 2305843009213693952 ∧ g < 2305843009213693952 ∧ g % 128 = d0 + d1 + d2 + d3 + d4 + d5 + d6 + d7 := by
  have q1 : c / 256 = r1 := by omega
  have q2 : c = d0 + 256 * d1 + 65536 * r2 := by omega
  have q3 : r1 = d1 + 256 * d2 + 65536 * r3 := by omega
  have q4 : e = (d0 + 257 * d1 + 256 * d2) + 65536 * (r2 + r3) := by omega
  have q5 : e / 65536 = r2 + r3 := by omega
  have q6 : r2 = d2 + 256 * d3 + 65536 * r4 := by omega
  have q7 : r3 = d3 + 256 * d4 + 65536 * r5 := by omega
  have q8 : r4 = d4 + 256 * d5 + 65536 * r6 := by omega
  have q9 : r5 = d5 + 256 * d6 + 65536 * d7 := by omega
  have p1 : f = (d0 + 257 * d1 + 257 * d2 + d3 + 256 * d3 + 256 * d4) + 65536 * (d2 + 257 * d3 + 256 * d4) + 65536 * (r4 + r5) + 4294967296 * (r4 + r5) := by omega
  have p2 : r4 + r5 = (d4 + 257 * d5 + 256 * d6) + 65536 * (r6 + d7) := by omega
  generalize hr : r4 + r5 = u at p1 p2
  have p3 : f / 4294967296 = u + (r6 + d7) := by omega
  have p5 : g % 128 = (f % 128 + (u + (r6 + d7)) % 128) % 128 := by omega
  have p6 : f % 128 = (d0 + d1 + d2 + d3) % 128 := by omega
  have p7 : (u + (r6 + d7)) % 128 = (d4 + d5 + d6 + d7) % 128 := by omega
  refine ⟨by omega, by omega, by omega, by omega, by omega⟩
end
section
section NAMING
variable {X : Ev} {d : Nat} {J : Jt} {M0 M M' : Hp} {pc : Nat} {ls : List (Option Value)} {st : List Value} {v : Option Value}
theorem x_nmi {x : Int32} (k : ∀ y : Int32, y = x → G X d J M0 pc ls (.int y :: st) M v M') : G X d J M0 pc ls (.int x :: st) M v M' := k x rfl
theorem x_nml {x : Int64} (k : ∀ y : Int64, y = x → G X d J M0 pc ls (.long y :: st) M v M') : G X d J M0 pc ls (.long x :: st) M v M' := k x rfl
end NAMING
theorem bc_sum (n : Nat) {c e f g : Nat} (hc : c = bw p8 8 n) (he : e = c + c / 256) (hf : f = e + e / 65536) (hg : g = f + f / 4294967296) : e < 18446744073709551616 ∧ f < 18446744073709551616 ∧ g < 18446744073709551616 ∧ g % 128 = cnt n.testBit 64 := by
  obtain ⟨d0, d1, d2, d3, d4, d5, d6, d7, k0, k1, k2, k3, k4, k5, k6, k7, e1, e2⟩ := pop_sum n
  obtain ⟨r6, e6⟩ : ∃ r, r = d6 + 256 * d7 := ⟨_, rfl⟩
  obtain ⟨r5, e5⟩ : ∃ r, r = d5 + 256 * r6 := ⟨_, rfl⟩
  obtain ⟨r4, e4⟩ : ∃ r, r = d4 + 256 * r5 := ⟨_, rfl⟩
  obtain ⟨r3, e3⟩ : ∃ r, r = d3 + 256 * r4 := ⟨_, rfl⟩
  obtain ⟨r2, e2'⟩ : ∃ r, r = d2 + 256 * r3 := ⟨_, rfl⟩
  obtain ⟨r1, e1'⟩ : ∃ r, r = d1 + 256 * r2 := ⟨_, rfl⟩
  have q := bc_num k0 k1 k2 k3 k4 k5 k6 k7 e6 e5 e4 e3 e2' e1' (c := c) (by rw [hc, e1, e1', e2', e3, e4, e5, e6]) he hf hg
  rw [e2]
  exact ⟨Nat.lt_trans q.2.1 (by decide), Nat.lt_trans q.2.2.1 (by decide), Nat.lt_trans q.2.2.2.1 (by decide), q.2.2.2.2⟩
theorem mod7 (z : Nat) : z % 2 ^ 32 % 2 ^ 7 = z % 128 := by omega
theorem b16_lt {b : Nat} (h : b ≤ 4919131752989213764) : b < 18446744073709551616 ∧ b + b / 2 ^ 4 < 18446744073709551616 := by omega
theorem bc_all {x y1 y2 y3 y4 y5 y6 : Int64} (h1 : y1 = x - ((x.toUInt64 >>> ((nI 1).toInt64.toUInt64 &&& Int64.toUInt64 63)).toInt64 &&& 6148914691236517205)) (h2 : y2 = (y1 &&& 3689348814741910323) + ((y1.toUInt64 >>> ((nI 2).toInt64.toUInt64 &&& Int64.toUInt64 63)).toInt64 &&& 3689348814741910323)) (h3 : y3 = (y2 + (y2.toUInt64 >>> ((nI 4).toInt64.toUInt64 &&& Int64.toUInt64 63)).toInt64) &&& 1085102592571150095)
    (h4 : y4 = y3 + (y3.toUInt64 >>> ((nI 8).toInt64.toUInt64 &&& Int64.toUInt64 63)).toInt64) (h5 : y5 = y4 + (y4.toUInt64 >>> ((nI 16).toInt64.toUInt64 &&& Int64.toUInt64 63)).toInt64) (h6 : y6 = y5 + (y5.toUInt64 >>> ((nI 32).toInt64.toUInt64 &&& Int64.toUInt64 63)).toInt64) : y6.toInt32 &&& nI 127 = nI (pc64 x) := by
  have hx : uN x < 256 ^ 8 := uN_lt x
  obtain ⟨a, b, c, ea, hle, hal, eb, hb, ec, ep⟩ := popN (uN x) hx
  obtain ⟨e, he⟩ : ∃ e, e = c + c / 256 := ⟨_, rfl⟩
  obtain ⟨f, hf⟩ : ∃ f, f = e + e / 65536 := ⟨_, rfl⟩
  obtain ⟨g, hg⟩ : ∃ g, g = f + f / 4294967296 := ⟨_, rfl⟩
  obtain ⟨q1, q2, q3, q4⟩ := bc_sum (uN x) ep he hf hg
  have hb3 := b16_lt (b := b) (by rw [show (4919131752989213764 : Nat) = mk8 68 8 by decide +kernel]; exact hb)
  have n1 : uN y1 = a := by
    rw [h1, uN_sub, uN_and, uN_sk x (by decide), uN_65]
    · exact ea
    · rw [uN_and, uN_sk x (by decide), uN_65]
      exact hle
  have n2 : uN y2 = b := by
    rw [h2, uN_add, uN_and, uN_and, uN_sk y1 (by decide), uN_33, n1, show (2 : Nat) ^ 2 = 4 from rfl, eb]
    exact Nat.mod_eq_of_lt hb3.1
  have n3 : uN y3 = c := by
    rw [h3, uN_and, uN_add, uN_sk y2 (by decide), uN_0f, n2, Nat.mod_eq_of_lt hb3.2]
    exact ec
  have n4 : uN y4 = e := by
    rw [h4, uN_add, uN_sk y3 (by decide), n3, show (2 : Nat) ^ 8 = 256 from rfl, ← he, Nat.mod_eq_of_lt q1]
  have n5 : uN y5 = f := by
    rw [h5, uN_add, uN_sk y4 (by decide), n4, show (2 : Nat) ^ 16 = 65536 from rfl, ← hf, Nat.mod_eq_of_lt q2]
  have n6 : uN y6 = g := by
    rw [h6, uN_add, uN_sk y5 (by decide), n5, show (2 : Nat) ^ 32 = 4294967296 from rfl, ← hg, Nat.mod_eq_of_lt q3]
  rw [uN_i32, n6]
  have e7 : (nI 127).toBitVec.toNat = 2 ^ 7 - 1 := by decide +kernel
  rw [pk_and _ 7 e7]
  have e8 : (nI g).toBitVec.toNat = g % 2 ^ 32 := BitVec.toNat_ofNat g 32
  rw [e8, mod7, q4]
  rfl
theorem c_bitCount {X : Ev} {M : Hp} {x : Int64} : Cl X 0 jJ13_bitCount_95d88 [.long x] M (some (.int (nI (pc64 x)))) M := by
  refine Cl.of (ls := [some (.long (x)), none]) (by decide) rfl (Nat.le_of_ble_eq_true rfl) ?_
  refine x_lload_n dJ13_bitCount_95d88_0 rfl rfl ?_
  refine x_lload_n dJ13_bitCount_95d88_1 rfl rfl ?_
  refine x_iconst (y := nI 1) dJ13_bitCount_95d88_2 rfl ?_
  refine x_lushr dJ13_bitCount_95d88_3 ?_
  refine x_ldc2 (y := (6148914691236517205)) dJ13_bitCount_95d88_4 kl_RJ13_314 ?_
  refine x_land dJ13_bitCount_95d88_7 ?_
  refine x_lsub dJ13_bitCount_95d88_8 ?_
  refine x_nml (fun y1 hy1 => ?_)
  refine x_lstore_n (ls' := [some (.long (y1)), none]) dJ13_bitCount_95d88_9 rfl (by decide) rfl rfl ?_
  refine x_lload_n dJ13_bitCount_95d88_10 rfl rfl ?_
  refine x_ldc2 (y := (3689348814741910323)) dJ13_bitCount_95d88_11 kl_RJ13_316 ?_
  refine x_land dJ13_bitCount_95d88_14 ?_
  refine x_lload_n dJ13_bitCount_95d88_15 rfl rfl ?_
  refine x_iconst (y := nI 2) dJ13_bitCount_95d88_16 rfl ?_
  refine x_lushr dJ13_bitCount_95d88_17 ?_
  refine x_ldc2 (y := (3689348814741910323)) dJ13_bitCount_95d88_18 kl_RJ13_316 ?_
  refine x_land dJ13_bitCount_95d88_21 ?_
  refine x_ladd dJ13_bitCount_95d88_22 ?_
  refine x_nml (fun y2 hy2 => ?_)
  refine x_lstore_n (ls' := [some (.long (y2)), none]) dJ13_bitCount_95d88_23 rfl (by decide) rfl rfl ?_
  refine x_lload_n dJ13_bitCount_95d88_24 rfl rfl ?_
  refine x_lload_n dJ13_bitCount_95d88_25 rfl rfl ?_
  refine x_iconst (y := nI 4) dJ13_bitCount_95d88_26 rfl ?_
  refine x_lushr dJ13_bitCount_95d88_27 ?_
  refine x_ladd dJ13_bitCount_95d88_28 ?_
  refine x_ldc2 (y := (1085102592571150095)) dJ13_bitCount_95d88_29 kl_RJ13_318 ?_
  refine x_land dJ13_bitCount_95d88_32 ?_
  refine x_nml (fun y3 hy3 => ?_)
  refine x_lstore_n (ls' := [some (.long (y3)), none]) dJ13_bitCount_95d88_33 rfl (by decide) rfl rfl ?_
  refine x_lload_n dJ13_bitCount_95d88_34 rfl rfl ?_
  refine x_lload_n dJ13_bitCount_95d88_35 rfl rfl ?_
  refine x_bipush (y := nI 8) dJ13_bitCount_95d88_36 rfl ?_
  refine x_lushr dJ13_bitCount_95d88_38 ?_
  refine x_ladd dJ13_bitCount_95d88_39 ?_
  refine x_nml (fun y4 hy4 => ?_)
  refine x_lstore_n (ls' := [some (.long (y4)), none]) dJ13_bitCount_95d88_40 rfl (by decide) rfl rfl ?_
  refine x_lload_n dJ13_bitCount_95d88_41 rfl rfl ?_
  refine x_lload_n dJ13_bitCount_95d88_42 rfl rfl ?_
  refine x_bipush (y := nI 16) dJ13_bitCount_95d88_43 rfl ?_
  refine x_lushr dJ13_bitCount_95d88_45 ?_
  refine x_ladd dJ13_bitCount_95d88_46 ?_
  refine x_nml (fun y5 hy5 => ?_)
  refine x_lstore_n (ls' := [some (.long (y5)), none]) dJ13_bitCount_95d88_47 rfl (by decide) rfl rfl ?_
  refine x_lload_n dJ13_bitCount_95d88_48 rfl rfl ?_
  refine x_lload_n dJ13_bitCount_95d88_49 rfl rfl ?_
  refine x_bipush (y := nI 32) dJ13_bitCount_95d88_50 rfl ?_
  refine x_lushr dJ13_bitCount_95d88_52 ?_
  refine x_ladd dJ13_bitCount_95d88_53 ?_
  refine x_nml (fun y6 hy6 => ?_)
  refine x_lstore_n (ls' := [some (.long (y6)), none]) dJ13_bitCount_95d88_54 rfl (by decide) rfl rfl ?_
  refine x_lload_n dJ13_bitCount_95d88_55 rfl rfl ?_
  refine x_l2i dJ13_bitCount_95d88_56 ?_
  refine x_bipush (y := nI 127) dJ13_bitCount_95d88_57 rfl ?_
  refine x_iand dJ13_bitCount_95d88_59 ?_
  exact x_ireturn_eq dJ13_bitCount_95d88_60 rfl (bc_all hy1 hy2 hy3 hy4 hy5 hy6)
end
section
theorem Sc.l00 {t n : Nat} {f g : Nat → Int64} : (.inl (t, n, .inr (.inl (fun j => if j < 0 then g j else f j))) : Cel) = .inl (t, n, .inr (.inl f)) := by
  have e : (fun j => if j < 0 then g j else f j) = f := by funext j; simp
  rw [e]
/-! ROW: a row of 2176 bits in 34 longs -/
def rb (f : Nat → Int64) (k : Nat) : Bool := (uN (f (k / 64))).testBit (63 - k % 64)
theorem sh_n {k : Nat} (h : k < 2 ^ 31) (a p : Nat) (hs : ((nI a &&& 31).toBitVec.smod 32).toNat = a) (hp : 2 ^ a = p) : nI k >>> (nI a &&& 31) = nI (k / p) := by rw [pk_shrN h _ a hs, hp]
theorem an_n {k : Nat} (h : k < 2 ^ 32) (m a : Nat) (hm : (nI m).toBitVec.toNat = 2 ^ a - 1) : nI k &&& nI m = nI (k % 2 ^ a) := pk_andN h a hm
theorem l_bit (x : Int64) {j : Nat} (hj : j < 64) : ((x.toUInt64 >>> ((nI j).toInt64.toUInt64 &&& Int64.toUInt64 63)).toInt64).toInt32 &&& nI 1 = nI ((uN x).testBit j).toNat := by
  rw [uN_i32, uN_sk x hj, pk_and _ 1 (by decide +kernel)]
  have e8 : (nI (uN x / 2 ^ j)).toBitVec.toNat = (uN x / 2 ^ j) % 2 ^ 32 := BitVec.toNat_ofNat _ 32
  rw [e8, Nat.toNat_testBit]
  congr 1
  omega
theorem l_byte (x : Int64) {j : Nat} (hj : j < 64) : ((x.toUInt64 >>> ((nI j).toInt64.toUInt64 &&& Int64.toUInt64 63)).toInt64).toInt32 &&& nI 255 = nI (uN x / 2 ^ j % 256) := by
  rw [uN_i32, uN_sk x hj, pk_and _ 8 (by decide +kernel)]
  have e8 : (nI (uN x / 2 ^ j)).toBitVec.toNat = (uN x / 2 ^ j) % 2 ^ 32 := BitVec.toNat_ofNat _ 32
  rw [e8]
  congr 1
  omega
/-- byte i of a row -/
def rby (f : Nat → Int64) (i : Nat) : Nat := uN (f (i / 8)) / 2 ^ (56 - 8 * (i % 8)) % 256
/-- a long with bit j set to b, as Row.set does it -/
def sbit (x : Int64) (j : Nat) (b : Bool) : Int64 := if b then x ||| ((1 : Int64) <<< ((nI j).toInt64 &&& 63)) else x &&& (((1 : Int64) <<< ((nI j).toInt64 &&& 63)) ^^^ (-1))
def rset (f : Nat → Int64) (k : Nat) (b : Bool) : Nat → Int64 := vp_updL f (k / 64) (sbit (f (k / 64)) (63 - k % 64) b)
/-- a long with the byte at bit j replaced, as Row.setByte does it -/
def sbyt (x : Int64) (j b : Nat) : Int64 := (x &&& (((255 : Int64) <<< ((nI j).toInt64 &&& 63)) ^^^ (-1))) ||| ((nI b).toInt64 <<< ((nI j).toInt64 &&& 63))
def rsetb (f : Nat → Int64) (i b : Nat) : Nat → Int64 := vp_updL f (i / 8) (sbyt (f (i / 8)) (56 - 8 * (i % 8)) b)
def rones (f : Nat → Int64) : Nat → Nat
  | 0 => 0
  | n + 1 => rones f n + pc64 (f n)
theorem rones_le (f : Nat → Int64) : ∀ n, rones f n ≤ 64 * n
  | 0 => Nat.le_refl _
  | n + 1 => by
    have := rones_le f n
    have := cnt_le (uN (f n)).testBit 64
    show rones f n + cnt _ 64 ≤ _
    omega
theorem nI_63 {k : Nat} : nI 63 - nI (k % 2 ^ 6) = nI (63 - k % 64) := pk_sub (by omega)
theorem nI_56 {k : Nat} : nI 56 - nI (8 * (k % 2 ^ 3)) = nI (56 - 8 * (k % 8)) := pk_sub (by omega)
theorem c_at {X : Ev} {M : Hp} {a b : Nat} {f : Nat → Int64} (ha : M[a]? = some (.inr (4, [.ref (b)]))) (hb : M[b]? = some (.inl (1, 34, .inr (.inl (f))))) {k : Nat} (hk : k < 2176) : Cl X 0 jX5_at [.ref (a), .int (nI k)] M (some (.int (nI (rb f k).toNat))) M := by
  refine Cl.of (ls := [some (.ref (a)), some (.int (nI k))]) (by decide) rfl (Nat.le_of_ble_eq_true rfl) ?_
  refine x_aload_n dX5_at_0 rfl rfl ?_
  refine x_getf (ci := 4) (kf := 0) dX5_at_1 rfl uX5 (by decide) fl_RX5_9 ha rfl ?_
  refine x_iload_n dX5_at_4 rfl rfl ?_
  refine x_bipush (y := nI 6) dX5_at_5 rfl ?_
  refine x_ishr dX5_at_7 ?_
  refine x_casti (y := nI (k / 64)) (sh_n (by omega) 6 64 (by decide) (by decide)) ?_
  refine x_lld (j := k / 64) dX5_at_8 hb rfl (by omega) (by decide) ?_
  refine x_bipush (y := nI 63) dX5_at_9 rfl ?_
  refine x_iload_n dX5_at_11 rfl rfl ?_
  refine x_bipush (y := nI 63) dX5_at_12 rfl ?_
  refine x_iand dX5_at_14 ?_
  refine x_casti (y := nI (k % 2 ^ 6)) (an_n (by omega) 63 6 (by decide +kernel)) ?_
  refine x_isub dX5_at_15 ?_
  refine x_casti (y := nI (63 - k % 64)) nI_63 ?_
  refine x_lushr dX5_at_16 ?_
  refine x_l2i dX5_at_17 ?_
  refine x_iconst (y := nI 1) dX5_at_18 rfl ?_
  refine x_iand dX5_at_19 ?_
  exact x_ireturn_eq dX5_at_20 rfl (l_bit _ (by omega))
theorem c_set {X : Ev} {M : Hp} {a b : Nat} {f : Nat → Int64} (ha : M[a]? = some (.inr (4, [.ref (b)]))) (hb : M[b]? = some (.inl (1, 34, .inr (.inl (f))))) {k : Nat} (hk : k < 2176) {z : Int32} {b0 : Bool} (hz : z = 0 ↔ b0 = false) : Cl X 0 jX5_set [.ref (a), .int (nI k), .int (z)] M none (M.set b (.inl (1, 34, .inr (.inl (rset f k b0))))) := by
  refine Cl.of (ls := [some (.ref (a)), some (.int (nI k)), some (.int (z)), none, none]) (by decide) rfl (Nat.le_of_ble_eq_true rfl) ?_
  refine x_lconst (y := 1) dX5_set_0 rfl ?_
  refine x_bipush (y := nI 63) dX5_set_1 rfl ?_
  refine x_iload_n dX5_set_3 rfl rfl ?_
  refine x_bipush (y := nI 63) dX5_set_4 rfl ?_
  refine x_iand dX5_set_6 ?_
  refine x_casti (y := nI (k % 2 ^ 6)) (an_n (by omega) 63 6 (by decide +kernel)) ?_
  refine x_isub dX5_set_7 ?_
  refine x_casti (y := nI (63 - k % 64)) nI_63 ?_
  refine x_lshl dX5_set_8 ?_
  refine x_lstore_n (ls' := [some (.ref (a)), some (.int (nI k)), some (.int (z)), some (.long ((1) <<< ((nI (63 - k % 64)).toInt64 &&& 63))), none]) dX5_set_9 rfl (by decide) rfl rfl ?_
  refine x_iload_n dX5_set_10 rfl rfl ?_
  refine x_if_ne (tgt := 34) dX5_set_11 (by decide) (fun h11 => ?_) (fun h11 => ?_)
  · refine x_aload_n dX5_set_34 rfl rfl ?_
    refine x_getf (ci := 4) (kf := 0) dX5_set_35 rfl uX5 (by decide) fl_RX5_9 ha rfl ?_
    refine x_iload_n dX5_set_38 rfl rfl ?_
    refine x_bipush (y := nI 6) dX5_set_39 rfl ?_
    refine x_ishr dX5_set_41 ?_
    refine x_casti (y := nI (k / 64)) (sh_n (by omega) 6 64 (by decide) (by decide)) ?_
    refine x_dup2 dX5_set_42 rfl rfl ?_
    refine x_lld (j := k / 64) dX5_set_43 hb rfl (by omega) (by decide) ?_
    refine x_lload_n dX5_set_44 rfl rfl ?_
    refine x_lor dX5_set_45 ?_
    refine x_lst (j := k / 64) (M1 := (M.set (b) (.inl (1, 34, .inr (.inl (rset f k b0)))))) dX5_set_46 hb rfl (by omega) (by decide) (by rw [show vp_updL f (k / 64) ((f (k / 64)) ||| ((1) <<< ((nI (63 - k % 64)).toInt64 &&& 63))) = (rset f k b0) from (by rw [show b0 = true from by cases b0 with | true => rfl | false => exact absurd (hz.mpr rfl) (by simpa using h11)]; rfl)] <;> exact rfl) ?_
    exact x_ret dX5_set_47 rfl
  · refine x_aload_n dX5_set_14 rfl rfl ?_
    refine x_getf (ci := 4) (kf := 0) dX5_set_15 rfl uX5 (by decide) fl_RX5_9 ha rfl ?_
    refine x_iload_n dX5_set_18 rfl rfl ?_
    refine x_bipush (y := nI 6) dX5_set_19 rfl ?_
    refine x_ishr dX5_set_21 ?_
    refine x_casti (y := nI (k / 64)) (sh_n (by omega) 6 64 (by decide) (by decide)) ?_
    refine x_dup2 dX5_set_22 rfl rfl ?_
    refine x_lld (j := k / 64) dX5_set_23 hb rfl (by omega) (by decide) ?_
    refine x_lload_n dX5_set_24 rfl rfl ?_
    refine x_ldc2 (y := (-1)) dX5_set_25 kl_RX5_15 ?_
    refine x_lxor dX5_set_28 ?_
    refine x_land dX5_set_29 ?_
    refine x_lst (j := k / 64) (M1 := (M.set (b) (.inl (1, 34, .inr (.inl (rset f k b0)))))) dX5_set_30 hb rfl (by omega) (by decide) (by rw [show vp_updL f (k / 64) ((f (k / 64)) &&& (((1) <<< ((nI (63 - k % 64)).toInt64 &&& 63)) ^^^ ((-1)))) = (rset f k b0) from (by rw [show b0 = false from hz.mp (by simpa using h11)]; rfl)] <;> exact rfl) ?_
    refine x_goto (tgt := 47) dX5_set_31 (by decide) ?_
    exact x_ret dX5_set_47 rfl
theorem c_byteAt {X : Ev} {M : Hp} {a b : Nat} {f : Nat → Int64} (ha : M[a]? = some (.inr (4, [.ref (b)]))) (hb : M[b]? = some (.inl (1, 34, .inr (.inl (f))))) {i : Nat} (hi : i < 272) : Cl X 0 jX5_byteAt [.ref (a), .int (nI i)] M (some (.int (nI (rby f i)))) M := by
  refine Cl.of (ls := [some (.ref (a)), some (.int (nI i))]) (by decide) rfl (Nat.le_of_ble_eq_true rfl) ?_
  refine x_aload_n dX5_byteAt_0 rfl rfl ?_
  refine x_getf (ci := 4) (kf := 0) dX5_byteAt_1 rfl uX5 (by decide) fl_RX5_9 ha rfl ?_
  refine x_iload_n dX5_byteAt_4 rfl rfl ?_
  refine x_iconst (y := nI 3) dX5_byteAt_5 rfl ?_
  refine x_ishr dX5_byteAt_6 ?_
  refine x_casti (y := nI (i / 8)) (sh_n (by omega) 3 8 (by decide) (by decide)) ?_
  refine x_lld (j := i / 8) dX5_byteAt_7 hb rfl (by omega) (by decide) ?_
  refine x_bipush (y := nI 56) dX5_byteAt_8 rfl ?_
  refine x_bipush (y := nI 8) dX5_byteAt_10 rfl ?_
  refine x_iload_n dX5_byteAt_12 rfl rfl ?_
  refine x_bipush (y := nI 7) dX5_byteAt_13 rfl ?_
  refine x_iand dX5_byteAt_15 ?_
  refine x_casti (y := nI (i % 2 ^ 3)) (an_n (by omega) 7 3 (by decide +kernel)) ?_
  refine x_imul dX5_byteAt_16 ?_
  refine x_casti (y := nI (8 * (i % 2 ^ 3))) (pk_mul _ _) ?_
  refine x_isub dX5_byteAt_17 ?_
  refine x_casti (y := nI (56 - 8 * (i % 8))) nI_56 ?_
  refine x_lushr dX5_byteAt_18 ?_
  refine x_l2i dX5_byteAt_19 ?_
  refine x_sipush (y := nI 255) dX5_byteAt_20 rfl ?_
  refine x_iand dX5_byteAt_23 ?_
  exact x_ireturn_eq dX5_byteAt_24 rfl (l_byte _ (by omega))
theorem c_setByte {X : Ev} {M : Hp} {a b : Nat} {f : Nat → Int64} (ha : M[a]? = some (.inr (4, [.ref (b)]))) (hb : M[b]? = some (.inl (1, 34, .inr (.inl (f))))) {i z : Nat} (hi : i < 272) : Cl X 0 jX5_setByte [.ref (a), .int (nI i), .int (nI z)] M none (M.set b (.inl (1, 34, .inr (.inl (rsetb f i z))))) := by
  refine Cl.of (ls := [some (.ref (a)), some (.int (nI i)), some (.int (nI z)), none]) (by decide) rfl (Nat.le_of_ble_eq_true rfl) ?_
  refine x_bipush (y := nI 56) dX5_setByte_0 rfl ?_
  refine x_bipush (y := nI 8) dX5_setByte_2 rfl ?_
  refine x_iload_n dX5_setByte_4 rfl rfl ?_
  refine x_bipush (y := nI 7) dX5_setByte_5 rfl ?_
  refine x_iand dX5_setByte_7 ?_
  refine x_casti (y := nI (i % 2 ^ 3)) (an_n (by omega) 7 3 (by decide +kernel)) ?_
  refine x_imul dX5_setByte_8 ?_
  refine x_casti (y := nI (8 * (i % 2 ^ 3))) (pk_mul _ _) ?_
  refine x_isub dX5_setByte_9 ?_
  refine x_casti (y := nI (56 - 8 * (i % 8))) nI_56 ?_
  refine x_istore_n (ls' := [some (.ref (a)), some (.int (nI i)), some (.int (nI z)), some (.int (nI (56 - 8 * (i % 8))))]) dX5_setByte_10 rfl (by decide) rfl rfl ?_
  refine x_aload_n dX5_setByte_11 rfl rfl ?_
  refine x_getf (ci := 4) (kf := 0) dX5_setByte_12 rfl uX5 (by decide) fl_RX5_9 ha rfl ?_
  refine x_iload_n dX5_setByte_15 rfl rfl ?_
  refine x_iconst (y := nI 3) dX5_setByte_16 rfl ?_
  refine x_ishr dX5_setByte_17 ?_
  refine x_casti (y := nI (i / 8)) (sh_n (by omega) 3 8 (by decide) (by decide)) ?_
  refine x_aload_n dX5_setByte_18 rfl rfl ?_
  refine x_getf (ci := 4) (kf := 0) dX5_setByte_19 rfl uX5 (by decide) fl_RX5_9 ha rfl ?_
  refine x_iload_n dX5_setByte_22 rfl rfl ?_
  refine x_iconst (y := nI 3) dX5_setByte_23 rfl ?_
  refine x_ishr dX5_setByte_24 ?_
  refine x_casti (y := nI (i / 8)) (sh_n (by omega) 3 8 (by decide) (by decide)) ?_
  refine x_lld (j := i / 8) dX5_setByte_25 hb rfl (by omega) (by decide) ?_
  refine x_ldc2 (y := (255)) dX5_setByte_26 kl_RX5_17 ?_
  refine x_iload_n dX5_setByte_29 rfl rfl ?_
  refine x_lshl dX5_setByte_30 ?_
  refine x_ldc2 (y := (-1)) dX5_setByte_31 kl_RX5_15 ?_
  refine x_lxor dX5_setByte_34 ?_
  refine x_land dX5_setByte_35 ?_
  refine x_iload_n dX5_setByte_36 rfl rfl ?_
  refine x_i2l dX5_setByte_37 ?_
  refine x_iload_n dX5_setByte_38 rfl rfl ?_
  refine x_lshl dX5_setByte_39 ?_
  refine x_lor dX5_setByte_40 ?_
  refine x_lst (j := i / 8) (M1 := (M.set (b) (.inl (1, 34, .inr (.inl (rsetb f i z)))))) dX5_setByte_41 hb rfl (by omega) (by decide) (by rw [show vp_updL f (i / 8) (((f (i / 8)) &&& ((((255)) <<< ((nI (56 - 8 * (i % 8))).toInt64 &&& 63)) ^^^ ((-1)))) ||| (((nI z).toInt64) <<< ((nI (56 - 8 * (i % 8))).toInt64 &&& 63))) = (rsetb f i z) from rfl] <;> exact rfl) ?_
  exact x_ret dX5_setByte_42 rfl
theorem lp_ones {X : Ev} {M0 M M' : Hp} {v : Option Value} {a b : Nat} {f : Nat → Int64} (ha : M[a]? = some (.inr (4, [.ref (b)]))) (hb : M[b]? = some (.inl (1, 34, .inr (.inl (f))))) (k : G X 1 jX5_ones M0 28 [some (.ref (a)), some (.int (nI (rones f (34)))), some (.int (nI 34))] [] M v M') : ∀ (r i : Nat), i + r = 34 → G X 1 jX5_ones M0 4 [some (.ref (a)), some (.int (nI (rones f (i)))), some (.int (nI (i)))] [] M v M' := by
  intro r
  induction r with
  | zero =>
    intro i hi
    have hi : i = 34 := by omega
    subst hi
    refine x_iload_n dX5_ones_4 rfl rfl ?_
    refine x_bipush (y := nI 34) dX5_ones_5 rfl ?_
    refine x_icmp_ge (tgt := 28) dX5_ones_7 (by decide) (fun _ => ?_) (fun h => False.elim (h (nI_le (Nat.le_refl _) (by decide))))
    exact k
  | succ r ih =>
    intro i hi
    refine x_iload_n dX5_ones_4 rfl rfl ?_
    refine x_bipush (y := nI 34) dX5_ones_5 rfl ?_
    refine x_icmp_ge (tgt := 28) dX5_ones_7 (by decide) (fun h => False.elim (nI_ge (by omega : i < 34) (by decide) h)) (fun _ => ?_)
    refine x_iload_n dX5_ones_10 rfl rfl ?_
    refine x_aload_n dX5_ones_11 rfl rfl ?_
    refine x_getf (ci := 4) (kf := 0) dX5_ones_12 rfl uX5 (by decide) fl_RX5_9 ha rfl ?_
    refine x_iload_n dX5_ones_15 rfl rfl ?_
    refine x_lld (j := i) dX5_ones_16 hb rfl (by omega) (by decide) ?_
    refine x_callS (as := [.long (f (i))]) dX5_ones_17 mk_J13_bitCount_95d88 st_J13_bitCount_95d88 ml_RX5_19 (by decide) rfl rfl (Nat.le_of_ble_eq_true rfl) c_bitCount ?_
    refine x_iadd dX5_ones_20 ?_
    refine x_casti (y := nI (rones f (i + 1))) (nI_add _ _) ?_
    refine x_istore_n (ls' := [some (.ref (a)), some (.int (nI (rones f (i + 1)))), some (.int (nI (i)))]) dX5_ones_21 rfl (by decide) rfl rfl ?_
    refine x_iinc (y := nI ((i) + 1)) (ls' := [some (.ref (a)), some (.int (nI (rones f (i + 1)))), some (.int (nI ((i) + 1)))]) dX5_ones_22 (by decide) rfl rfl (ii_add _ 1) rfl ?_
    refine x_goto (tgt := 4) dX5_ones_25 (by decide) ?_
    exact ih (i + 1) (by omega)
theorem c_ones {X : Ev} {M : Hp} {a b : Nat} {f : Nat → Int64} (ha : M[a]? = some (.inr (4, [.ref (b)]))) (hb : M[b]? = some (.inl (1, 34, .inr (.inl (f))))) : Cl X 1 jX5_ones [.ref (a)] M (some (.int (nI (rones f 34)))) M := by
  refine Cl.of (ls := [some (.ref (a)), none, none]) (by decide) rfl (Nat.le_of_ble_eq_true rfl) ?_
  refine x_iconst (y := nI 0) dX5_ones_0 rfl ?_
  refine x_istore_n (ls' := [some (.ref (a)), some (.int (nI 0)), none]) dX5_ones_1 rfl (by decide) rfl rfl ?_
  refine x_iconst (y := nI 0) dX5_ones_2 rfl ?_
  refine x_istore_n (ls' := [some (.ref (a)), some (.int (nI 0)), some (.int (nI 0))]) dX5_ones_3 rfl (by decide) rfl rfl ?_
  exact lp_ones ha hb (by
    refine x_iload_n dX5_ones_28 rfl rfl ?_
    exact x_ireturn_eq dX5_ones_29 rfl rfl) 34 0 rfl
theorem lp_apart {X : Ev} {M0 M M' : Hp} {v : Option Value} {a b : Nat} {f : Nat → Int64} (ha : M[a]? = some (.inr (4, [.ref (b)]))) (hb : M[b]? = some (.inl (1, 34, .inr (.inl (f))))) {a2 b2 : Nat} {g : Nat → Int64} (ha2 : M[a2]? = some (.inr (4, [.ref (b2)]))) (hb2 : M[b2]? = some (.inl (1, 34, .inr (.inl (g))))) (k : G X 1 jX5_apart M0 35 [some (.ref (a)), some (.ref (a2)), some (.int (nI (rones (fun j => f j ^^^ g j) (34)))), some (.int (nI 34))] [] M v M') : ∀ (r i : Nat), i + r = 34 → G X 1 jX5_apart M0 4 [some (.ref (a)), some (.ref (a2)), some (.int (nI (rones (fun j => f j ^^^ g j) (i)))), some (.int (nI (i)))] [] M v M' := by
  intro r
  induction r with
  | zero =>
    intro i hi
    have hi : i = 34 := by omega
    subst hi
    refine x_iload_n dX5_apart_4 rfl rfl ?_
    refine x_bipush (y := nI 34) dX5_apart_5 rfl ?_
    refine x_icmp_ge (tgt := 35) dX5_apart_7 (by decide) (fun _ => ?_) (fun h => False.elim (h (nI_le (Nat.le_refl _) (by decide))))
    exact k
  | succ r ih =>
    intro i hi
    refine x_iload_n dX5_apart_4 rfl rfl ?_
    refine x_bipush (y := nI 34) dX5_apart_5 rfl ?_
    refine x_icmp_ge (tgt := 35) dX5_apart_7 (by decide) (fun h => False.elim (nI_ge (by omega : i < 34) (by decide) h)) (fun _ => ?_)
    refine x_iload_n dX5_apart_10 rfl rfl ?_
    refine x_aload_n dX5_apart_11 rfl rfl ?_
    refine x_getf (ci := 4) (kf := 0) dX5_apart_12 rfl uX5 (by decide) fl_RX5_9 ha rfl ?_
    refine x_iload_n dX5_apart_15 rfl rfl ?_
    refine x_lld (j := i) dX5_apart_16 hb rfl (by omega) (by decide) ?_
    refine x_aload_n dX5_apart_17 rfl rfl ?_
    refine x_getf (ci := 4) (kf := 0) dX5_apart_18 rfl uX5 (by decide) fl_RX5_9 ha2 rfl ?_
    refine x_iload_n dX5_apart_21 rfl rfl ?_
    refine x_lld (j := i) dX5_apart_22 hb2 rfl (by omega) (by decide) ?_
    refine x_lxor dX5_apart_23 ?_
    refine x_callS (as := [.long ((f (i)) ^^^ (g (i)))]) dX5_apart_24 mk_J13_bitCount_95d88 st_J13_bitCount_95d88 ml_RX5_19 (by decide) rfl rfl (Nat.le_of_ble_eq_true rfl) c_bitCount ?_
    refine x_iadd dX5_apart_27 ?_
    refine x_casti (y := nI (rones (fun j => f j ^^^ g j) (i + 1))) (nI_add _ _) ?_
    refine x_istore_n (ls' := [some (.ref (a)), some (.ref (a2)), some (.int (nI (rones (fun j => f j ^^^ g j) (i + 1)))), some (.int (nI (i)))]) dX5_apart_28 rfl (by decide) rfl rfl ?_
    refine x_iinc (y := nI ((i) + 1)) (ls' := [some (.ref (a)), some (.ref (a2)), some (.int (nI (rones (fun j => f j ^^^ g j) (i + 1)))), some (.int (nI ((i) + 1)))]) dX5_apart_29 (by decide) rfl rfl (ii_add _ 1) rfl ?_
    refine x_goto (tgt := 4) dX5_apart_32 (by decide) ?_
    exact ih (i + 1) (by omega)
theorem c_apart {X : Ev} {M : Hp} {a b : Nat} {f : Nat → Int64} (ha : M[a]? = some (.inr (4, [.ref (b)]))) (hb : M[b]? = some (.inl (1, 34, .inr (.inl (f))))) {a2 b2 : Nat} {g : Nat → Int64} (ha2 : M[a2]? = some (.inr (4, [.ref (b2)]))) (hb2 : M[b2]? = some (.inl (1, 34, .inr (.inl (g))))) : Cl X 1 jX5_apart [.ref (a), .ref (a2)] M (some (.int (nI (rones (fun j => f j ^^^ g j) 34)))) M := by
  refine Cl.of (ls := [some (.ref (a)), some (.ref (a2)), none, none]) (by decide) rfl (Nat.le_of_ble_eq_true rfl) ?_
  refine x_iconst (y := nI 0) dX5_apart_0 rfl ?_
  refine x_istore_n (ls' := [some (.ref (a)), some (.ref (a2)), some (.int (nI 0)), none]) dX5_apart_1 rfl (by decide) rfl rfl ?_
  refine x_iconst (y := nI 0) dX5_apart_2 rfl ?_
  refine x_istore_n (ls' := [some (.ref (a)), some (.ref (a2)), some (.int (nI 0)), some (.int (nI 0))]) dX5_apart_3 rfl (by decide) rfl rfl ?_
  exact lp_apart ha hb ha2 hb2 (by
    refine x_iload_n dX5_apart_35 rfl rfl ?_
    exact x_ireturn_eq dX5_apart_36 rfl rfl) 34 0 rfl
theorem c_clear {X : Ev} {M : Hp} {a b : Nat} {f : Nat → Int64} (ha : M[a]? = some (.inr (4, [.ref (b)]))) (hb : M[b]? = some (.inl (1, 34, .inr (.inl (f))))) : Cl X 1 jX5_clear [.ref (a)] M none (M.set b (.inl (1, 34, .inr (.inl (fun _ => 0))))) := by
  refine Cl.of (ls := [some (.ref (a))]) (by decide) rfl (Nat.le_of_ble_eq_true rfl) ?_
  refine x_aload_n dX5_clear_0 rfl rfl ?_
  refine x_getf (ci := 4) (kf := 0) dX5_clear_1 rfl uX5 (by decide) fl_RX5_9 ha rfl ?_
  refine x_lconst (y := 0) dX5_clear_4 rfl ?_
  refine x_callS (as := [.ref (b), .long (0)]) dX5_clear_5 mk_J7_fill_d0a16 st_J7_fill_d0a16 ml_RX5_25 (by decide) rfl rfl (Nat.le_of_ble_eq_true rfl) (c_filll hb (by decide)) ?_
  exact x_ret dX5_clear_8 rfl
theorem c_become {X : Ev} {M : Hp} {a b : Nat} {f : Nat → Int64} (ha : M[a]? = some (.inr (4, [.ref (b)]))) (hb : M[b]? = some (.inl (1, 34, .inr (.inl (f))))) {a2 b2 : Nat} {g : Nat → Int64} (ha2 : M[a2]? = some (.inr (4, [.ref (b2)]))) (hb2 : M[b2]? = some (.inl (1, 34, .inr (.inl (g))))) : Cl X 1 jX5_become [.ref (a), .ref (a2)] M none (M.set b (.inl (1, 34, .inr (.inl (g))))) := by
  refine Cl.of (ls := [some (.ref (a)), some (.ref (a2))]) (by decide) rfl (Nat.le_of_ble_eq_true rfl) ?_
  refine x_aload_n dX5_become_0 rfl rfl ?_
  refine x_getf (ci := 4) (kf := 0) dX5_become_1 rfl uX5 (by decide) fl_RX5_9 ha2 rfl ?_
  refine x_iconst (y := nI 0) dX5_become_4 rfl ?_
  refine x_aload_n dX5_become_5 rfl rfl ?_
  refine x_getf (ci := 4) (kf := 0) dX5_become_6 rfl uX5 (by decide) fl_RX5_9 ha rfl ?_
  refine x_iconst (y := nI 0) dX5_become_9 rfl ?_
  refine x_bipush (y := nI 34) dX5_become_10 rfl ?_
  refine x_copyl (np := 34) (M1 := (M.set (b) (.inl (1, 34, .inr (.inl (va_cpy g f 0 0 34)))))) dX5_become_12 ml_RX5_31 ac_nat ac_sta ac_ini hb2 hb (by decide) (by decide) (by decide) (by decide) (Nat.le_of_ble_eq_true rfl) rfl ?_
  exact G.post (Sm.set1 (Sc.l (fun j hj => pk_cpy_in (Nat.zero_le _) (by omega) |>.trans (by rw [Nat.zero_add, Nat.sub_zero])))) (x_ret dX5_become_15 rfl)
theorem dif_step {f g1 g : Nat → Int64} {i : Nat} : vp_updL (fun j => if j < i then g1 j ^^^ g j else f j) i (g1 i ^^^ g i) = (fun j => if j < i + 1 then g1 j ^^^ g j else f j) := by
  funext j
  by_cases h : j = i
  · subst h; simp [vp_updL]
  · rw [pk_uLn h]; by_cases h2 : j < i
    · show (if j < i then g1 j ^^^ g j else f j) = _; rw [if_pos h2, if_pos (by omega)]
    · show (if j < i then g1 j ^^^ g j else f j) = _; rw [if_neg h2, if_neg (by omega)]
theorem lp_dif {X : Ev} {d : Nat} {M0 M M' : Hp} {v : Option Value} {a b : Nat} {f : Nat → Int64} (ha : M[a]? = some (.inr (4, [.ref (b)]))) (hb : M[b]? = some (.inl (1, 34, .inr (.inl (f))))) {a1 b1 : Nat} {g1 : Nat → Int64} (ha1 : M[a1]? = some (.inr (4, [.ref (b1)]))) (hb1 : M[b1]? = some (.inl (1, 34, .inr (.inl (g1))))) {a2 b2 : Nat} {g : Nat → Int64} (ha2 : M[a2]? = some (.inr (4, [.ref (b2)]))) (hb2 : M[b2]? = some (.inl (1, 34, .inr (.inl (g))))) (n1 : b ≠ a) (n2 : b ≠ a1) (n3 : b ≠ b1) (n4 : b ≠ a2) (n5 : b ≠ b2) (k : G X d jX5_becomeDifference M0 33 [some (.ref (a)), some (.ref (a1)), some (.ref (a2)), some (.int (nI 34))] [] (M.set (b) (.inl (1, 34, .inr (.inl (fun j => if j < 34 then g1 j ^^^ g j else f j))))) v M') : ∀ (r i : Nat), i + r = 34 → G X d jX5_becomeDifference M0 2 [some (.ref (a)), some (.ref (a1)), some (.ref (a2)), some (.int (nI (i)))] [] (M.set (b) (.inl (1, 34, .inr (.inl (fun j => if j < i then g1 j ^^^ g j else f j))))) v M' := by
  intro r
  induction r with
  | zero =>
    intro i hi
    have hi : i = 34 := by omega
    subst hi
    refine x_iload_n dX5_becomeDifference_2 rfl rfl ?_
    refine x_bipush (y := nI 34) dX5_becomeDifference_3 rfl ?_
    refine x_icmp_ge (tgt := 33) dX5_becomeDifference_5 (by decide) (fun _ => ?_) (fun h => False.elim (h (nI_le (Nat.le_refl _) (by decide))))
    exact k
  | succ r ih =>
    intro i hi
    refine x_iload_n dX5_becomeDifference_2 rfl rfl ?_
    refine x_bipush (y := nI 34) dX5_becomeDifference_3 rfl ?_
    refine x_icmp_ge (tgt := 33) dX5_becomeDifference_5 (by decide) (fun h => False.elim (nI_ge (by omega : i < 34) (by decide) h)) (fun _ => ?_)
    refine x_aload_n dX5_becomeDifference_8 rfl rfl ?_
    refine x_getf (ci := 4) (kf := 0) dX5_becomeDifference_9 rfl uX5 (by decide) fl_RX5_9 (gn ha n1) rfl ?_
    refine x_iload_n dX5_becomeDifference_12 rfl rfl ?_
    refine x_aload_n dX5_becomeDifference_13 rfl rfl ?_
    refine x_getf (ci := 4) (kf := 0) dX5_becomeDifference_14 rfl uX5 (by decide) fl_RX5_9 (gn ha1 n2) rfl ?_
    refine x_iload_n dX5_becomeDifference_17 rfl rfl ?_
    refine x_lld (j := i) dX5_becomeDifference_18 (gn hb1 n3) rfl (by omega) (by decide) ?_
    refine x_aload_n dX5_becomeDifference_19 rfl rfl ?_
    refine x_getf (ci := 4) (kf := 0) dX5_becomeDifference_20 rfl uX5 (by decide) fl_RX5_9 (gn ha2 n4) rfl ?_
    refine x_iload_n dX5_becomeDifference_23 rfl rfl ?_
    refine x_lld (j := i) dX5_becomeDifference_24 (gn hb2 n5) rfl (by omega) (by decide) ?_
    refine x_lxor dX5_becomeDifference_25 ?_
    refine x_lst (j := i) (M1 := (M.set (b) (.inl (1, 34, .inr (.inl (fun j => if j < i + 1 then g1 j ^^^ g j else f j)))))) dX5_becomeDifference_26 (gs hb) rfl (by omega) (by decide) (by rw [show vp_updL (fun j => if j < i then g1 j ^^^ g j else f j) (i) ((g1 (i)) ^^^ (g (i))) = (fun j => if j < i + 1 then g1 j ^^^ g j else f j) from dif_step] <;> exact (ss0)) ?_
    refine x_iinc (y := nI ((i) + 1)) (ls' := [some (.ref (a)), some (.ref (a1)), some (.ref (a2)), some (.int (nI ((i) + 1)))]) dX5_becomeDifference_27 (by decide) rfl rfl (ii_add _ 1) rfl ?_
    refine x_goto (tgt := 2) dX5_becomeDifference_30 (by decide) ?_
    exact ih (i + 1) (by omega)
theorem c_becomeDifference {X : Ev} {M : Hp} {a b : Nat} {f : Nat → Int64} (ha : M[a]? = some (.inr (4, [.ref (b)]))) (hb : M[b]? = some (.inl (1, 34, .inr (.inl (f))))) {a1 b1 : Nat} {g1 : Nat → Int64} (ha1 : M[a1]? = some (.inr (4, [.ref (b1)]))) (hb1 : M[b1]? = some (.inl (1, 34, .inr (.inl (g1))))) {a2 b2 : Nat} {g : Nat → Int64} (ha2 : M[a2]? = some (.inr (4, [.ref (b2)]))) (hb2 : M[b2]? = some (.inl (1, 34, .inr (.inl (g))))) (n1 : b ≠ a) (n2 : b ≠ a1) (n3 : b ≠ b1) (n4 : b ≠ a2) (n5 : b ≠ b2) : Cl X 0 jX5_becomeDifference [.ref (a), .ref (a1), .ref (a2)] M none (M.set b (.inl (1, 34, .inr (.inl (fun j => g1 j ^^^ g j))))) := by
  refine Cl.of (ls := [some (.ref (a)), some (.ref (a1)), some (.ref (a2)), none]) (by decide) rfl (Nat.le_of_ble_eq_true rfl) ?_
  refine x_iconst (y := nI 0) dX5_becomeDifference_0 rfl ?_
  refine x_istore_n (ls' := [some (.ref (a)), some (.ref (a1)), some (.ref (a2)), some (.int (nI 0))]) dX5_becomeDifference_1 rfl (by decide) rfl rfl ?_
  refine G.hp (set_id hb (Sc.l00 (f := f) (g := fun j => g1 j ^^^ g j))) (lp_dif ha hb ha1 hb1 ha2 hb2 n1 n2 n3 n4 n5 (G.post (Sm.set1 (Sc.l (fun j hj => if_pos hj))) (x_ret dX5_becomeDifference_33 rfl)) 34 0 rfl)
def rfirst (f : Nat → Int64) : Nat → (Nat → Int64)
  | 0 => f
  | n + 1 => rset (rfirst f n) n true
theorem lp_first {X : Ev} {M0 M M' : Hp} {v : Option Value} {a b : Nat} {f : Nat → Int64} (ha : M[a]? = some (.inr (4, [.ref (b)]))) (hb : M[b]? = some (.inl (1, 34, .inr (.inl (f))))) (n1 : b ≠ a) {n : Nat} (hn : n ≤ 2176) (k : G X 2 jX5_becomeFirstOnes M0 23 [some (.ref (a)), some (.int (nI n)), some (.int (nI (n)))] [] (M.set (b) (.inl (1, 34, .inr (.inl (rfirst (fun _ => 0) (n)))))) v M') : ∀ (r i : Nat), i + r = n → G X 2 jX5_becomeFirstOnes M0 6 [some (.ref (a)), some (.int (nI n)), some (.int (nI (i)))] [] (M.set (b) (.inl (1, 34, .inr (.inl (rfirst (fun _ => 0) (i)))))) v M' := by
  intro r
  induction r with
  | zero =>
    intro i hi
    have hi : i = n := by omega
    subst hi
    refine x_iload_n dX5_becomeFirstOnes_6 rfl rfl ?_
    refine x_iload_n dX5_becomeFirstOnes_7 rfl rfl ?_
    refine x_icmp_ge (tgt := 23) dX5_becomeFirstOnes_8 (by decide) (fun _ => ?_) (fun h => False.elim (h (nI_le (Nat.le_refl _) (by omega))))
    exact k
  | succ r ih =>
    intro i hi
    refine x_iload_n dX5_becomeFirstOnes_6 rfl rfl ?_
    refine x_iload_n dX5_becomeFirstOnes_7 rfl rfl ?_
    refine x_icmp_ge (tgt := 23) dX5_becomeFirstOnes_8 (by decide) (fun h => False.elim (nI_ge (by omega : i < n) (by omega) h)) (fun _ => ?_)
    refine x_aload_n dX5_becomeFirstOnes_11 rfl rfl ?_
    refine x_iload_n dX5_becomeFirstOnes_12 rfl rfl ?_
    refine x_iconst (y := nI 1) dX5_becomeFirstOnes_13 rfl ?_
    refine x_callV (ci := 4) (as := [.int (nI (i)), .int (nI 1)]) dX5_becomeFirstOnes_14 mk_X5_set in_X5_set se_X5_set ml_RX5_40 rfl (gn ha n1) (by decide) rfl rfl (Nat.le_of_ble_eq_true rfl) (c_set (gn ha n1) (gs hb) (by omega) (b0 := true) (by decide)) ?_
    refine G.hp (ss0) ?_
    refine x_iinc (y := nI ((i) + 1)) (ls' := [some (.ref (a)), some (.int (nI n)), some (.int (nI ((i) + 1)))]) dX5_becomeFirstOnes_17 (by decide) rfl rfl (ii_add _ 1) rfl ?_
    refine x_goto (tgt := 6) dX5_becomeFirstOnes_20 (by decide) ?_
    exact ih (i + 1) (by omega)
theorem c_becomeFirstOnes {X : Ev} {M : Hp} {a b : Nat} {f : Nat → Int64} (ha : M[a]? = some (.inr (4, [.ref (b)]))) (hb : M[b]? = some (.inl (1, 34, .inr (.inl (f))))) (n1 : b ≠ a) {n : Nat} (hn : n ≤ 2176) : Cl X 2 jX5_becomeFirstOnes [.ref (a), .int (nI n)] M none (M.set b (.inl (1, 34, .inr (.inl (rfirst (fun _ => 0) n))))) := by
  refine Cl.of (ls := [some (.ref (a)), some (.int (nI n)), none]) (by decide) rfl (Nat.le_of_ble_eq_true rfl) ?_
  refine x_aload_n dX5_becomeFirstOnes_0 rfl rfl ?_
  refine x_callV (ci := 4) (as := []) dX5_becomeFirstOnes_1 mk_X5_clear in_X5_clear se_X5_clear ml_RX5_37 rfl ha (by decide) rfl rfl (Nat.le_of_ble_eq_true rfl) (c_clear ha hb) ?_
  refine x_iconst (y := nI 0) dX5_becomeFirstOnes_4 rfl ?_
  refine x_istore_n (ls' := [some (.ref (a)), some (.int (nI n)), some (.int (nI 0))]) dX5_becomeFirstOnes_5 rfl (by decide) rfl rfl ?_
  exact lp_first ha hb n1 hn (x_ret dX5_becomeFirstOnes_23 rfl) n 0 (by omega)
end
section
/-! THE FIELD of 2^m numbers, m from 3 to 13: its powers of 2, by doubling; they are all numbers but 0 -/
def pnl : List Nat := [11, 19, 37, 67, 137, 285, 529, 1033, 2053, 4179, 8219]
def pn (m : Nat) : Nat := pnl.getD (m - 3) 0
theorem pols_nI {m : Nat} (h3 : 3 ≤ m) (h13 : m ≤ 13) : pols (m - 3) = nI (pn m) := by
  have key : ∀ m, m < 14 → 3 ≤ m → pols (m - 3) = nI (pn m) := by decide +kernel
  exact key m (by omega) h3
def mulx (m a : Nat) : Nat := if 2 ^ m ≤ 2 * a then (2 * a) ^^^ pn m else 2 * a
def pwr (m : Nat) : Nat → Nat
  | 0 => 1
  | i + 1 => mulx m (pwr m i)
theorem pn_mod {m : Nat} (h3 : 3 ≤ m) (h13 : m ≤ 13) : pn m / 2 ^ m = 1 ∧ pn m % 2 = 1 := by
  have key : ∀ m, m < 14 → 3 ≤ m → pn m / 2 ^ m = 1 ∧ pn m % 2 = 1 := by decide +kernel
  exact key m (by omega) h3
theorem xor_lt_of {m a b : Nat} (ha : a / 2 ^ m = 1) (hb : b / 2 ^ m = 1) : a ^^^ b < 2 ^ m := by
  have h1 : (a ^^^ b) / 2 ^ m = 0 := by
    rw [Nat.xor_div_two_pow, ha, hb]; rfl
  exact (Nat.div_eq_zero_iff_lt (Nat.two_pow_pos m)).mp h1
theorem mulx_lt {m a : Nat} (h3 : 3 ≤ m) (h13 : m ≤ 13) (h : a < 2 ^ m) : mulx m a < 2 ^ m := by
  unfold mulx
  split
  · rename_i hc
    refine xor_lt_of ?_ (pn_mod h3 h13).1
    rw [Nat.div_eq_iff (Nat.two_pow_pos m)]
    omega
  · omega
theorem pwr_lt {m : Nat} (h3 : 3 ≤ m) (h13 : m ≤ 13) : ∀ i, pwr m i < 2 ^ m
  | 0 => Nat.one_lt_two_pow (by omega)
  | i + 1 => mulx_lt h3 h13 (pwr_lt h3 h13 i)
theorem mulx_even {m a b : Nat} (h3 : 3 ≤ m) (h13 : m ≤ 13) (ha : a < 2 ^ m) (hb : b < 2 ^ m) (h : mulx m a = mulx m b) : a = b := by
  have hp := (pn_mod h3 h13).2
  have od : ∀ x : Nat, ((2 * x) ^^^ pn m) % 2 = 1 := fun x => by
    rw [← Nat.and_one_is_mod, Nat.and_xor_distrib_right, Nat.and_one_is_mod, Nat.and_one_is_mod, hp, Nat.mul_mod_right]; rfl
  unfold mulx at h
  split at h <;> split at h
  · have h2 := congrArg (fun z => z ^^^ pn m) h
    simp only [Nat.xor_assoc, Nat.xor_self, Nat.xor_zero] at h2
    omega
  · have := od a; omega
  · have := od b; omega
  · omega
/-- the walk of the powers: none but the last is 1 -/
def ckp (m : Nat) : Nat → Nat → Bool
  | 0, a => a == 1
  | _ + 1, 0 => false
  | k + 1, b + 1 => (b != 0) && ckp m k (mulx m (b + 1))
theorem ckp_spec (m : Nat) : ∀ (k i : Nat), ckp m k (pwr m i) = true → (∀ j, j < k → pwr m (i + j) ≠ 1) ∧ pwr m (i + k) = 1
  | 0, i, h => ⟨fun j hj => absurd hj (by omega), by simpa [ckp] using h⟩
  | k + 1, i, h => by
    cases ha : pwr m i with
    | zero => rw [ha] at h; cases h
    | succ b =>
      rw [ha] at h
      simp only [ckp, Bool.and_eq_true, bne_iff_ne, ne_eq] at h
      have h2 : ckp m k (pwr m (i + 1)) = true := by
        show ckp m k (mulx m (pwr m i)) = true
        rw [ha]; exact h.2
      obtain ⟨h3, h4⟩ := ckp_spec m k (i + 1) h2
      refine ⟨fun j hj => ?_, by rw [← h4]; congr 1; omega⟩
      cases j with
      | zero => show pwr m (i + 0) ≠ 1; rw [Nat.add_zero, ha]; omega
      | succ j => rw [show i + (j + 1) = i + 1 + j by omega]; exact h3 j (by omega)
set_option maxRecDepth 100000 in
theorem ckp_all : ∀ m, m < 14 → 3 ≤ m → ckp m (2 ^ m - 2) (pwr m 1) = true := by decide +kernel
theorem pwr_ord {m : Nat} (h3 : 3 ≤ m) (h13 : m ≤ 13) : (∀ j, 0 < j → j < 2 ^ m - 1 → pwr m j ≠ 1) ∧ pwr m (2 ^ m - 1) = 1 := by
  obtain ⟨h1, h2⟩ := ckp_spec m _ 1 (ckp_all m (by omega) h3)
  have h8 : 2 ^ 3 ≤ 2 ^ m := Nat.pow_le_pow_right (by decide) h3
  refine ⟨fun j h0 hj => ?_, ?_⟩
  · have := h1 (j - 1) (by omega)
    rwa [show 1 + (j - 1) = j by omega] at this
  · rwa [show 1 + (2 ^ m - 2) = 2 ^ m - 1 by omega] at h2
theorem pwr_canc {m : Nat} (h3 : 3 ≤ m) (h13 : m ≤ 13) : ∀ (i j : Nat), pwr m i = pwr m (i + j) → pwr m 0 = pwr m j
  | 0, j, h => by rwa [Nat.zero_add] at h
  | i + 1, j, h => by
    refine pwr_canc h3 h13 i j (mulx_even h3 h13 (pwr_lt h3 h13 _) (pwr_lt h3 h13 _) ?_)
    have e : pwr m (i + 1 + j) = mulx m (pwr m (i + j)) := by rw [show i + 1 + j = (i + j) + 1 by omega]; rfl
    rw [← e]; exact h
theorem pwr_inj {m i j : Nat} (h3 : 3 ≤ m) (h13 : m ≤ 13) (hi : i < 2 ^ m - 1) (hj : j < 2 ^ m - 1) (h : pwr m i = pwr m j) : i = j := by
  have key : ∀ a b, a < b → b < 2 ^ m - 1 → pwr m a ≠ pwr m b := fun a b hab hb he => by
    have := pwr_canc h3 h13 a (b - a) (by rw [show a + (b - a) = b by omega]; exact he)
    exact (pwr_ord h3 h13).1 (b - a) (by omega) (by omega) this.symm
  rcases Nat.lt_trichotomy i j with h1 | h1 | h1
  · exact absurd h (key i j h1 hj)
  · exact h1
  · exact absurd h.symm (key j i h1 hi)
theorem pwr_per {m : Nat} (h3 : 3 ≤ m) (h13 : m ≤ 13) : ∀ i, pwr m (i + (2 ^ m - 1)) = pwr m i
  | 0 => by rw [Nat.zero_add]; exact (pwr_ord h3 h13).2
  | i + 1 => by
    rw [show i + 1 + (2 ^ m - 1) = (i + (2 ^ m - 1)) + 1 by omega]
    show mulx m (pwr m (i + (2 ^ m - 1))) = mulx m (pwr m i)
    rw [pwr_per h3 h13 i]
theorem pwr_mod {m : Nat} (h3 : 3 ≤ m) (h13 : m ≤ 13) (i : Nat) : pwr m (i % (2 ^ m - 1)) = pwr m i := by
  have key : ∀ q r, pwr m (r + (2 ^ m - 1) * q) = pwr m r := by
    intro q
    induction q with
    | zero => intro r; rw [Nat.mul_zero, Nat.add_zero]
    | succ q ih => intro r; rw [Nat.mul_succ, ← Nat.add_assoc, pwr_per h3 h13, ih]
  conv => rhs; rw [← Nat.mod_add_div i (2 ^ m - 1)]
  exact (key _ _).symm
theorem pwr_pos {m : Nat} (h3 : 3 ≤ m) (h13 : m ≤ 13) (i : Nat) : pwr m i ≠ 0 := by
  intro h
  have h0 : ∀ k, pwr m (i + k) = 0 := by
    intro k
    induction k with
    | zero => exact h
    | succ k ih =>
      show mulx m (pwr m (i + k)) = 0
      rw [ih]
      unfold mulx
      rw [if_neg (by have := Nat.two_pow_pos m; omega)]
  have h1 := h0 (i * (2 ^ m - 1) - i)
  have h8 : 2 ^ 3 ≤ 2 ^ m := Nat.pow_le_pow_right (by decide) h3
  have hle : i ≤ i * (2 ^ m - 1) := Nat.le_mul_of_pos_right i (by omega)
  rw [show i + (i * (2 ^ m - 1) - i) = i * (2 ^ m - 1) by omega, ← pwr_mod h3 h13, Nat.mul_mod_left] at h1
  exact absurd h1 Nat.one_ne_zero
theorem pigeon : ∀ (n : Nat) (f : Nat → Nat), (∀ i, i < n → f i < n) → (∀ i j, i < n → j < n → f i = f j → i = j) → ∀ y, y < n → ∃ i, i < n ∧ f i = y
  | 0, _, _, _, y, hy => absurd hy (by omega)
  | n + 1, f, hf, hi, y, hy => by
    have hg1 : ∀ i, i < n → (if f i = n then f n else f i) < n := fun i h => by
      have a := hf i (by omega)
      have b := hf n (by omega)
      split
      · rename_i hc
        rcases Nat.lt_or_ge (f n) n with h1 | h1
        · exact h1
        · have := hi i n (by omega) (by omega) (by omega); omega
      · omega
    have hg2 : ∀ i j, i < n → j < n → (if f i = n then f n else f i) = (if f j = n then f n else f j) → i = j := fun i j h1 h2 he => by
      split at he <;> split at he
      · exact hi i j (by omega) (by omega) (by omega)
      · have := hi n j (by omega) (by omega) he; omega
      · have := hi i n (by omega) (by omega) he; omega
      · exact hi i j (by omega) (by omega) he
    have ih := pigeon n (fun i => if f i = n then f n else f i) hg1 hg2
    by_cases hw : y = f n
    · exact ⟨n, by omega, hw.symm⟩
    · by_cases hy2 : y = n
      · have hwn : f n < n := by have := hf n (by omega); omega
        obtain ⟨i, h1, h2⟩ := ih (f n) hwn
        try dsimp only at h2
        split at h2
        · rename_i hc; exact ⟨i, by omega, by omega⟩
        · have := hi i n (by omega) (by omega) h2; omega
      · obtain ⟨i, h1, h2⟩ := ih y (by omega)
        try dsimp only at h2
        split at h2
        · exact absurd h2.symm hw
        · exact ⟨i, by omega, h2⟩
theorem pwr_sur {m a : Nat} (h3 : 3 ≤ m) (h13 : m ≤ 13) (h0 : 0 < a) (ha : a < 2 ^ m) : ∃ i, i < 2 ^ m - 1 ∧ pwr m i = a := by
  obtain ⟨i, h1, h2⟩ := pigeon (2 ^ m - 1) (fun i => pwr m i - 1) (fun i _ => by have := pwr_lt h3 h13 i; have := pwr_pos h3 h13 i; omega) (fun i j hi hj he => by
    have := pwr_pos h3 h13 i
    have := pwr_pos h3 h13 j
    exact pwr_inj h3 h13 hi hj (by (try dsimp only at he); omega)) (a - 1) (by omega)
  refine ⟨i, h1, ?_⟩
  have := pwr_pos h3 h13 i
  try dsimp only at h2
  omega
end
section
/-! COSETS -/
def dbl (e n : Nat) : Nat := if n ≤ 2 * e then 2 * e - n else 2 * e
theorem dbl_lt {e n : Nat} (h : e < n) : dbl e n < n := by unfold dbl; split <;> omega
theorem dbl_mod {e n : Nat} (h : e < n) : dbl e n = 2 * e % n := by
  unfold dbl
  split
  · rename_i hc
    rw [Nat.mod_eq_sub_mod hc, Nat.mod_eq_of_lt (by omega)]
  · rw [Nat.mod_eq_of_lt (by omega)]
theorem sl_m {m : Nat} (h : m < 31) : nI 1 <<< (nI m &&& 31) = nI (2 ^ m) := by
  have h2 : 1 * 2 ^ m < 2 ^ 32 := by
    rw [Nat.one_mul]; exact Nat.pow_lt_pow_right (by decide) (by omega)
  rw [pk_shlN (n := 1) _ m (s_l m (by omega)) h2, Nat.one_mul]
theorem red_nat {i n : Nat} (hi : i < 2 ^ 31) : red (nI i) n = i % n := by
  unfold red
  rw [nI_toInt hi]
  omega
theorem two_le {m : Nat} (h3 : 3 ≤ m) (h13 : m ≤ 13) : 8 ≤ 2 ^ m ∧ 2 ^ m ≤ 8192 := ⟨Nat.pow_le_pow_right (n := 2) (i := 3) (by decide) h3, Nat.pow_le_pow_right (n := 2) (j := 13) (by decide) h13⟩
def csl (n s : Nat) : Nat → Nat → Nat → Nat
  | 0, _, k => k
  | r + 1, e, k => if e = s then k else csl n s r (dbl e n) (k + 1)
/-- how many exponents there are with i, doubled again and again -/
def csize (i m : Nat) : Nat := csl (2 ^ m - 1) (i % (2 ^ m - 1)) (m - 1) (dbl (i % (2 ^ m - 1)) (2 ^ m - 1)) 1
def lsl (n : Nat) : Nat → Nat → Nat → Nat
  | 0, _, l => l
  | r + 1, e, l => lsl n r (dbl e n) (min l (dbl e n))
def cleast (i m : Nat) : Nat := lsl (2 ^ m - 1) (m - 1) (i % (2 ^ m - 1)) (i % (2 ^ m - 1))
def isnl (m l i : Nat) : Nat → Nat → Bool
  | 0, _ => true
  | r + 1, b => if i ≤ b then true else if cleast b m = l then false else isnl m l i r (b + 2)
def cnew (i m : Nat) : Bool := isnl m (cleast i m) i i 1
def tll (m t : Nat) : Nat → Nat → Nat → Nat
  | 0, _, s => s
  | r + 1, i, s => if 2 * t ≤ i then s else tll m t r (i + 2) (if cnew i m then s + csize i m else s)
/-- R for m and t, as the class counts it -/
def ctail (m t : Nat) : Nat := tll m t (2 * t) 1 0
theorem c_reduced {X : Ev} {M : Hp} {i : Int32} {n : Nat} (h0 : 0 < n) (hn : n < 2 ^ 31) : Cl X 1 jX1_reduced [.int (i), .int (nI n)] M (some (.int (nI (red i n)))) M := by
  refine Cl.of (ls := [some (.int (i)), some (.int (nI n))]) (by decide) rfl (Nat.le_of_ble_eq_true rfl) ?_
  refine x_iload_n dX1_reduced_0 rfl rfl ?_
  refine x_iconst (y := nI 1) dX1_reduced_1 rfl ?_
  refine x_icmp_ge (tgt := 9) dX1_reduced_2 (by decide) (fun _ => ?_) (fun h => False.elim (h (nI_le h0 hn)))
  refine x_iload_n dX1_reduced_9 rfl rfl ?_
  refine x_iload_n dX1_reduced_10 rfl rfl ?_
  refine x_callS (as := [.int (i), .int (nI n)]) dX1_reduced_11 mk_J9_floorMod_7cf53 st_J9_floorMod_7cf53 ml_RX1_7 (by decide) rfl rfl (Nat.le_of_ble_eq_true rfl) (c_floorMod h0 hn) ?_
  exact x_ireturn_eq dX1_reduced_14 rfl rfl
theorem c_reducedN {X : Ev} {M : Hp} {i n : Nat} (hi : i < 2 ^ 31) (h0 : 0 < n) (hn : n < 2 ^ 31) : Cl X 1 jX1_reduced [.int (nI i), .int (nI n)] M (some (.int (nI (i % n)))) M := by
  have h := c_reduced (X := X) (M := M) (i := nI i) h0 hn
  rw [red_nat hi] at h
  exact h
theorem c_doubled {X : Ev} {M : Hp} {e n : Nat} (he : e < n) (hn : n < 2 ^ 30) : Cl X 0 jX1_doubled [.int (nI e), .int (nI n)] M (some (.int (nI (dbl e n)))) M := by
  refine Cl.of (ls := [some (.int (nI e)), some (.int (nI n))]) (by decide) rfl (Nat.le_of_ble_eq_true rfl) ?_
  refine x_iconst (y := nI 2) dX1_doubled_0 rfl ?_
  refine x_iload_n dX1_doubled_1 rfl rfl ?_
  refine x_imul dX1_doubled_2 ?_
  refine x_casti (y := nI (2 * e)) (pk_mul _ _) ?_
  refine x_iload_n dX1_doubled_3 rfl rfl ?_
  refine x_icmp_lt (tgt := 15) dX1_doubled_4 (by decide) (fun h4 => ?_) (fun h4 => ?_)
  · refine x_iconst (y := nI 2) dX1_doubled_15 rfl ?_
    refine x_iload_n dX1_doubled_16 rfl rfl ?_
    refine x_imul dX1_doubled_17 ?_
    refine x_casti (y := nI (2 * e)) (pk_mul _ _) ?_
    exact x_ireturn_eq dX1_doubled_18 rfl (by unfold dbl; rw [if_neg (by have := (nI_ltI (by omega) (by omega)).mp h4; omega)])
  · refine x_iconst (y := nI 2) dX1_doubled_7 rfl ?_
    refine x_iload_n dX1_doubled_8 rfl rfl ?_
    refine x_imul dX1_doubled_9 ?_
    refine x_casti (y := nI (2 * e)) (pk_mul _ _) ?_
    refine x_iload_n dX1_doubled_10 rfl rfl ?_
    refine x_isub dX1_doubled_11 ?_
    refine x_casti (y := nI (2 * e - n)) (pk_sub ((nI_leI (by omega) (by omega)).mp (Int32.not_lt.mp h4))) ?_
    refine x_goto (tgt := 18) dX1_doubled_12 (by decide) ?_
    exact x_ireturn_eq dX1_doubled_18 rfl (by unfold dbl; rw [if_pos ((nI_leI (by omega) (by omega)).mp (Int32.not_lt.mp h4))])
theorem lp_size {X : Ev} {M0 M : Hp} {i m : Nat} (h3 : 3 ≤ m) (h13 : m ≤ 13) (hi : i < 2 ^ 31) : ∀ (r e k : Nat), k + r = m → e < 2 ^ m - 1 → G X 2 jX1_size M0 22 [some (.int (nI i)), some (.int (nI m)), some (.int (nI (2 ^ m - 1))), some (.int (nI (i % (2 ^ m - 1)))), some (.int (nI e)), some (.int (nI k))] [] M (some (.int (nI (csl (2 ^ m - 1) (i % (2 ^ m - 1)) r e k)))) M := by
  have ht := two_le h3 h13
  have hlt : i % (2 ^ m - 1) < 2 ^ m - 1 := Nat.mod_lt _ (by omega)
  intro r
  induction r with
  | zero =>
    intro e k hk he
    refine x_iload dX1_size_22 rfl ?_
    refine x_iload_n dX1_size_24 rfl rfl ?_
    refine x_icmp_eq (tgt := 48) dX1_size_25 (by decide) (fun h25 => ?_) (fun h25 => ?_)
    · refine x_iload dX1_size_48 rfl ?_
      exact x_ireturn_eq dX1_size_50 rfl rfl
    · refine x_iload dX1_size_28 rfl ?_
      refine x_iload_n dX1_size_30 rfl rfl ?_
      refine x_icmp_ge (tgt := 48) dX1_size_31 (by decide) (fun _ => ?_) (fun h => False.elim (h (nI_le (by omega) (by omega))))
      refine x_iload dX1_size_48 rfl ?_
      exact x_ireturn_eq dX1_size_50 rfl rfl
  | succ r ih =>
    intro e k hk he
    refine x_iload dX1_size_22 rfl ?_
    refine x_iload_n dX1_size_24 rfl rfl ?_
    refine x_icmp_eq (tgt := 48) dX1_size_25 (by decide) (fun h25 => ?_) (fun h25 => ?_)
    · refine x_iload dX1_size_48 rfl ?_
      exact x_ireturn_eq dX1_size_50 rfl (by show nI k = nI (if e = _ then k else _); rw [if_pos ((nI_eq (by omega) (by omega)).mp h25)])
    · refine x_iload dX1_size_28 rfl ?_
      refine x_iload_n dX1_size_30 rfl rfl ?_
      refine x_icmp_ge (tgt := 48) dX1_size_31 (by decide) (fun h => False.elim (nI_ge (by omega : k < m) (by omega) h)) (fun _ => ?_)
      refine x_iload dX1_size_34 rfl ?_
      refine x_iload_n dX1_size_36 rfl rfl ?_
      refine x_callS (as := [.int (nI e), .int (nI (2 ^ m - 1))]) dX1_size_37 mk_X1_doubled st_X1_doubled ml_RX1_18 (by decide) rfl rfl (Nat.le_of_ble_eq_true rfl) (c_doubled (by first | assumption | exact Nat.mod_lt _ (by omega) | exact dbl_lt (by assumption)) (by omega)) ?_
      refine x_istore (ls' := [some (.int (nI i)), some (.int (nI m)), some (.int (nI (2 ^ m - 1))), some (.int (nI (i % (2 ^ m - 1)))), some (.int (nI (dbl e (2 ^ m - 1)))), some (.int (nI k))]) dX1_size_40 (by decide) rfl rfl ?_
      refine x_iinc (y := nI (k + 1)) (ls' := [some (.int (nI i)), some (.int (nI m)), some (.int (nI (2 ^ m - 1))), some (.int (nI (i % (2 ^ m - 1)))), some (.int (nI (dbl e (2 ^ m - 1)))), some (.int (nI (k + 1)))]) dX1_size_42 (by decide) rfl rfl (ii_add _ 1) rfl ?_
      refine x_goto (tgt := 22) dX1_size_45 (by decide) ?_
      have hne : ¬ e = (i % (2 ^ m - 1)) := fun z => h25 (by rw [z])
      have hz : csl (2 ^ m - 1) (i % (2 ^ m - 1)) (r + 1) e k = csl (2 ^ m - 1) (i % (2 ^ m - 1)) r (dbl e (2 ^ m - 1)) (k + 1) := if_neg hne
      rw [hz]
      exact ih (dbl e (2 ^ m - 1)) (k + 1) (by omega) (dbl_lt he)
theorem c_size {X : Ev} {M : Hp} {i m : Nat} (h3 : 3 ≤ m) (h13 : m ≤ 13) (hi : i < 2 ^ 31) : Cl X 2 jX1_size [.int (nI i), .int (nI m)] M (some (.int (nI (csize i m)))) M := by
  have ht := two_le h3 h13
  have hlt : i % (2 ^ m - 1) < 2 ^ m - 1 := Nat.mod_lt _ (by omega)
  refine Cl.of (ls := [some (.int (nI i)), some (.int (nI m)), none, none, none, none]) (by decide) rfl (Nat.le_of_ble_eq_true rfl) ?_
  refine x_iconst (y := nI 1) dX1_size_0 rfl ?_
  refine x_iload_n dX1_size_1 rfl rfl ?_
  refine x_ishl dX1_size_2 ?_
  refine x_casti (y := nI (2 ^ m)) (sl_m (by omega)) ?_
  refine x_iconst (y := nI 1) dX1_size_3 rfl ?_
  refine x_isub dX1_size_4 ?_
  refine x_casti (y := nI (2 ^ m - 1)) (pk_sub (by omega)) ?_
  refine x_istore_n (ls' := [some (.int (nI i)), some (.int (nI m)), some (.int (nI (2 ^ m - 1))), none, none, none]) dX1_size_5 rfl (by decide) rfl rfl ?_
  refine x_iload_n dX1_size_6 rfl rfl ?_
  refine x_iload_n dX1_size_7 rfl rfl ?_
  refine x_callS (as := [.int (nI i), .int (nI (2 ^ m - 1))]) dX1_size_8 mk_X1_reduced st_X1_reduced ml_RX1_13 (by decide) rfl rfl (Nat.le_of_ble_eq_true rfl) (c_reducedN hi (by omega) (by omega)) ?_
  refine x_istore_n (ls' := [some (.int (nI i)), some (.int (nI m)), some (.int (nI (2 ^ m - 1))), some (.int (nI (i % (2 ^ m - 1)))), none, none]) dX1_size_11 rfl (by decide) rfl rfl ?_
  refine x_iload_n dX1_size_12 rfl rfl ?_
  refine x_iload_n dX1_size_13 rfl rfl ?_
  refine x_callS (as := [.int (nI (i % (2 ^ m - 1))), .int (nI (2 ^ m - 1))]) dX1_size_14 mk_X1_doubled st_X1_doubled ml_RX1_18 (by decide) rfl rfl (Nat.le_of_ble_eq_true rfl) (c_doubled (by first | assumption | exact Nat.mod_lt _ (by omega) | exact dbl_lt (by assumption)) (by omega)) ?_
  refine x_istore (ls' := [some (.int (nI i)), some (.int (nI m)), some (.int (nI (2 ^ m - 1))), some (.int (nI (i % (2 ^ m - 1)))), some (.int (nI (dbl (i % (2 ^ m - 1)) (2 ^ m - 1)))), none]) dX1_size_17 (by decide) rfl rfl ?_
  refine x_iconst (y := nI 1) dX1_size_19 rfl ?_
  refine x_istore (ls' := [some (.int (nI i)), some (.int (nI m)), some (.int (nI (2 ^ m - 1))), some (.int (nI (i % (2 ^ m - 1)))), some (.int (nI (dbl (i % (2 ^ m - 1)) (2 ^ m - 1)))), some (.int (nI 1))]) dX1_size_20 (by decide) rfl rfl ?_
  exact lp_size h3 h13 hi (m - 1) _ 1 (by omega) (dbl_lt hlt)
theorem lp_least {X : Ev} {M0 M : Hp} {i m : Nat} (h3 : 3 ≤ m) (h13 : m ≤ 13) (hi : i < 2 ^ 31) : ∀ (r e l k : Nat), k + r = m → e < 2 ^ m - 1 → l < 2 ^ m - 1 → G X 2 jX1_least M0 18 [some (.int (nI i)), some (.int (nI m)), some (.int (nI (2 ^ m - 1))), some (.int (nI e)), some (.int (nI l)), some (.int (nI k))] [] M (some (.int (nI (lsl (2 ^ m - 1) r e l)))) M := by
  have ht := two_le h3 h13
  have hlt : i % (2 ^ m - 1) < 2 ^ m - 1 := Nat.mod_lt _ (by omega)
  intro r
  induction r with
  | zero =>
    intro e l k hk he hl
    refine x_iload dX1_least_18 rfl ?_
    refine x_iload_n dX1_least_20 rfl rfl ?_
    refine x_icmp_ge (tgt := 44) dX1_least_21 (by decide) (fun _ => ?_) (fun h => False.elim (h (nI_le (by omega) (by omega))))
    refine x_iload dX1_least_44 rfl ?_
    exact x_ireturn_eq dX1_least_46 rfl rfl
  | succ r ih =>
    intro e l k hk he hl
    have hd := dbl_lt he
    refine x_iload dX1_least_18 rfl ?_
    refine x_iload_n dX1_least_20 rfl rfl ?_
    refine x_icmp_ge (tgt := 44) dX1_least_21 (by decide) (fun h => False.elim (nI_ge (by omega : k < m) (by omega) h)) (fun _ => ?_)
    refine x_iload_n dX1_least_24 rfl rfl ?_
    refine x_iload_n dX1_least_25 rfl rfl ?_
    refine x_callS (as := [.int (nI e), .int (nI (2 ^ m - 1))]) dX1_least_26 mk_X1_doubled st_X1_doubled ml_RX1_18 (by decide) rfl rfl (Nat.le_of_ble_eq_true rfl) (c_doubled (by first | assumption | exact Nat.mod_lt _ (by omega) | exact dbl_lt (by assumption)) (by omega)) ?_
    refine x_istore_n (ls' := [some (.int (nI i)), some (.int (nI m)), some (.int (nI (2 ^ m - 1))), some (.int (nI (dbl e (2 ^ m - 1)))), some (.int (nI l)), some (.int (nI k))]) dX1_least_29 rfl (by decide) rfl rfl ?_
    refine x_iload dX1_least_30 rfl ?_
    refine x_iload_n dX1_least_32 rfl rfl ?_
    refine x_callS (as := [.int (nI l), .int (nI (dbl e (2 ^ m - 1)))]) dX1_least_33 mk_J9_min_7cf53 st_J9_min_7cf53 ml_RX1_21 (by decide) rfl rfl (Nat.le_of_ble_eq_true rfl) (c_min (by omega) (by omega)) ?_
    refine x_istore (ls' := [some (.int (nI i)), some (.int (nI m)), some (.int (nI (2 ^ m - 1))), some (.int (nI (dbl e (2 ^ m - 1)))), some (.int (nI (min l (dbl e (2 ^ m - 1))))), some (.int (nI k))]) dX1_least_36 (by decide) rfl rfl ?_
    refine x_iinc (y := nI (k + 1)) (ls' := [some (.int (nI i)), some (.int (nI m)), some (.int (nI (2 ^ m - 1))), some (.int (nI (dbl e (2 ^ m - 1)))), some (.int (nI (min l (dbl e (2 ^ m - 1))))), some (.int (nI (k + 1)))]) dX1_least_38 (by decide) rfl rfl (ii_add _ 1) rfl ?_
    refine x_goto (tgt := 18) dX1_least_41 (by decide) ?_
    exact ih (dbl e (2 ^ m - 1)) (min l (dbl e (2 ^ m - 1))) (k + 1) (by omega) hd (by omega)
theorem c_least {X : Ev} {M : Hp} {i m : Nat} (h3 : 3 ≤ m) (h13 : m ≤ 13) (hi : i < 2 ^ 31) : Cl X 2 jX1_least [.int (nI i), .int (nI m)] M (some (.int (nI (cleast i m)))) M := by
  have ht := two_le h3 h13
  have hlt : i % (2 ^ m - 1) < 2 ^ m - 1 := Nat.mod_lt _ (by omega)
  refine Cl.of (ls := [some (.int (nI i)), some (.int (nI m)), none, none, none, none]) (by decide) rfl (Nat.le_of_ble_eq_true rfl) ?_
  refine x_iconst (y := nI 1) dX1_least_0 rfl ?_
  refine x_iload_n dX1_least_1 rfl rfl ?_
  refine x_ishl dX1_least_2 ?_
  refine x_casti (y := nI (2 ^ m)) (sl_m (by omega)) ?_
  refine x_iconst (y := nI 1) dX1_least_3 rfl ?_
  refine x_isub dX1_least_4 ?_
  refine x_casti (y := nI (2 ^ m - 1)) (pk_sub (by omega)) ?_
  refine x_istore_n (ls' := [some (.int (nI i)), some (.int (nI m)), some (.int (nI (2 ^ m - 1))), none, none, none]) dX1_least_5 rfl (by decide) rfl rfl ?_
  refine x_iload_n dX1_least_6 rfl rfl ?_
  refine x_iload_n dX1_least_7 rfl rfl ?_
  refine x_callS (as := [.int (nI i), .int (nI (2 ^ m - 1))]) dX1_least_8 mk_X1_reduced st_X1_reduced ml_RX1_13 (by decide) rfl rfl (Nat.le_of_ble_eq_true rfl) (c_reducedN hi (by omega) (by omega)) ?_
  refine x_istore_n (ls' := [some (.int (nI i)), some (.int (nI m)), some (.int (nI (2 ^ m - 1))), some (.int (nI (i % (2 ^ m - 1)))), none, none]) dX1_least_11 rfl (by decide) rfl rfl ?_
  refine x_iload_n dX1_least_12 rfl rfl ?_
  refine x_istore (ls' := [some (.int (nI i)), some (.int (nI m)), some (.int (nI (2 ^ m - 1))), some (.int (nI (i % (2 ^ m - 1)))), some (.int (nI (i % (2 ^ m - 1)))), none]) dX1_least_13 (by decide) rfl rfl ?_
  refine x_iconst (y := nI 1) dX1_least_15 rfl ?_
  refine x_istore (ls' := [some (.int (nI i)), some (.int (nI m)), some (.int (nI (2 ^ m - 1))), some (.int (nI (i % (2 ^ m - 1)))), some (.int (nI (i % (2 ^ m - 1)))), some (.int (nI 1))]) dX1_least_16 (by decide) rfl rfl ?_
  exact lp_least h3 h13 hi (m - 1) _ _ 1 (by omega) hlt hlt
theorem lsl_lt {n : Nat} : ∀ (r e l : Nat), e < n → l < n → lsl n r e l < n
  | 0, _, _, _, h => h
  | r + 1, e, l, h, h2 => lsl_lt r _ _ (dbl_lt h) (by have := dbl_lt h; omega)
theorem cleast_lt {i m : Nat} (h3 : 3 ≤ m) (h13 : m ≤ 13) : cleast i m < 8192 := by
  have ht := two_le h3 h13
  have := lsl_lt (n := 2 ^ m - 1) (m - 1) _ _ (Nat.mod_lt i (by omega)) (Nat.mod_lt i (by omega))
  unfold cleast
  omega
theorem csl_le {n s : Nat} : ∀ (r e k : Nat), csl n s r e k ≤ k + r ∧ k ≤ csl n s r e k
  | 0, _, _ => ⟨Nat.le_refl _, Nat.le_refl _⟩
  | r + 1, e, k => by
    have := csl_le (n := n) (s := s) r (dbl e n) (k + 1)
    show (if e = s then k else _) ≤ _ ∧ k ≤ (if e = s then k else _)
    split <;> omega
theorem csize_le {i m : Nat} (h : 1 ≤ m) : csize i m ≤ m ∧ 1 ≤ csize i m := by
  have := csl_le (n := 2 ^ m - 1) (s := i % (2 ^ m - 1)) (m - 1) (dbl (i % (2 ^ m - 1)) (2 ^ m - 1)) 1
  unfold csize
  omega
theorem lp_isNew {X : Ev} {M0 M : Hp} {i m : Nat} (h3 : 3 ≤ m) (h13 : m ≤ 13) (hi : i < 2 ^ 20) : ∀ (r b : Nat), i ≤ b + 2 * r → b < 2 ^ 21 → G X 3 jX1_isNew M0 8 [some (.int (nI i)), some (.int (nI m)), some (.int (nI (cleast i m))), some (.int (nI b))] [] M (some (.int (if isnl m (cleast i m) i r b then 1 else 0))) M := by
  have hlt := cleast_lt (i := i) h3 h13
  intro r
  induction r with
  | zero =>
    intro b hb hb2
    refine x_iload_n dX1_isNew_8 rfl rfl ?_
    refine x_iload_n dX1_isNew_9 rfl rfl ?_
    refine x_icmp_ge (tgt := 30) dX1_isNew_10 (by decide) (fun _ => ?_) (fun h => False.elim (h (nI_le (by omega) (by omega))))
    refine x_iconst (y := nI 1) dX1_isNew_30 rfl ?_
    exact x_zreturn_eq dX1_isNew_31 rfl rfl
  | succ r ih =>
    intro b hb hb2
    have hlb := cleast_lt (i := b) h3 h13
    refine x_iload_n dX1_isNew_8 rfl rfl ?_
    refine x_iload_n dX1_isNew_9 rfl rfl ?_
    refine x_icmp_ge (tgt := 30) dX1_isNew_10 (by decide) (fun h10 => ?_) (fun h10 => ?_)
    · refine x_iconst (y := nI 1) dX1_isNew_30 rfl ?_
      exact x_zreturn_eq dX1_isNew_31 rfl (by have hz : isnl m (cleast i m) i (r + 1) b = true := if_pos ((nI_leI (by omega) (by omega)).mp h10); rw [hz]; rfl)
    · refine x_iload_n dX1_isNew_13 rfl rfl ?_
      refine x_iload_n dX1_isNew_14 rfl rfl ?_
      refine x_callS (as := [.int (nI b), .int (nI m)]) dX1_isNew_15 mk_X1_least st_X1_least ml_RX1_24 (by decide) rfl rfl (Nat.le_of_ble_eq_true rfl) (c_least h3 h13 (by omega)) ?_
      refine x_iload_n dX1_isNew_18 rfl rfl ?_
      refine x_icmp_ne (tgt := 24) dX1_isNew_19 (by decide) (fun h19 => ?_) (fun h19 => ?_)
      · refine x_iinc (y := nI (b + 2)) (ls' := [some (.int (nI i)), some (.int (nI m)), some (.int (nI (cleast i m))), some (.int (nI (b + 2)))]) dX1_isNew_24 (by decide) rfl rfl (ii_add _ 2) rfl ?_
        refine x_goto (tgt := 8) dX1_isNew_27 (by decide) ?_
        have hz : isnl m (cleast i m) i (r + 1) b = isnl m (cleast i m) i r (b + 2) := by
          show (if i ≤ b then true else if cleast b m = cleast i m then false else _) = _
          rw [if_neg (fun z => h10 (nI_le z (by omega))), if_neg (fun z => h19 (by rw [z]))]
        rw [hz]
        exact ih (b + 2) (by omega) (by have : ¬ i ≤ b := fun z => h10 (nI_le z (by omega)); omega)
      · have hz : isnl m (cleast i m) i (r + 1) b = false := by
          show (if i ≤ b then true else if cleast b m = cleast i m then false else _) = false
          rw [if_neg (fun z => h10 (nI_le z (by omega))), if_pos ((nI_eq (by omega) (by omega)).mp h19)]
        refine x_iconst (y := nI 0) dX1_isNew_22 rfl ?_
        exact x_zreturn_eq dX1_isNew_23 rfl (by rw [hz]; rfl)
theorem c_isNew {X : Ev} {M : Hp} {i m : Nat} (h3 : 3 ≤ m) (h13 : m ≤ 13) (hi : i < 2 ^ 20) : Cl X 3 jX1_isNew [.int (nI i), .int (nI m)] M (some (.int (if cnew i m then 1 else 0))) M := by
  refine Cl.of (ls := [some (.int (nI i)), some (.int (nI m)), none, none]) (by decide) rfl (Nat.le_of_ble_eq_true rfl) ?_
  refine x_iload_n dX1_isNew_0 rfl rfl ?_
  refine x_iload_n dX1_isNew_1 rfl rfl ?_
  refine x_callS (as := [.int (nI i), .int (nI m)]) dX1_isNew_2 mk_X1_least st_X1_least ml_RX1_24 (by decide) rfl rfl (Nat.le_of_ble_eq_true rfl) (c_least h3 h13 (by omega)) ?_
  refine x_istore_n (ls' := [some (.int (nI i)), some (.int (nI m)), some (.int (nI (cleast i m))), none]) dX1_isNew_5 rfl (by decide) rfl rfl ?_
  refine x_iconst (y := nI 1) dX1_isNew_6 rfl ?_
  refine x_istore_n (ls' := [some (.int (nI i)), some (.int (nI m)), some (.int (nI (cleast i m))), some (.int (nI 1))]) dX1_isNew_7 rfl (by decide) rfl rfl ?_
  exact lp_isNew h3 h13 hi i 1 (by omega) (by decide)
theorem lp_tail {X : Ev} {M0 M : Hp} {m t : Nat} (h3 : 3 ≤ m) (h13 : m ≤ 13) (ht : t ≤ 8) : ∀ (r i s : Nat), 2 * t ≤ i + 2 * r → i < 64 → G X 4 jX1_tailLength M0 4 [some (.int (nI m)), some (.int (nI t)), some (.int (nI s)), some (.int (nI i))] [] M (some (.int (nI (tll m t r i s)))) M := by
  intro r
  induction r with
  | zero =>
    intro i s hb hb2
    refine x_iload_n dX1_tailLength_4 rfl rfl ?_
    refine x_iconst (y := nI 2) dX1_tailLength_5 rfl ?_
    refine x_iload_n dX1_tailLength_6 rfl rfl ?_
    refine x_imul dX1_tailLength_7 ?_
    refine x_casti (y := nI (2 * t)) (pk_mul _ _) ?_
    refine x_icmp_ge (tgt := 33) dX1_tailLength_8 (by decide) (fun _ => ?_) (fun h => False.elim (h (nI_le (by omega) (by omega))))
    refine x_iload_n dX1_tailLength_33 rfl rfl ?_
    exact x_ireturn_eq dX1_tailLength_34 rfl rfl
  | succ r ih =>
    intro i s hb hb2
    have hcs := csize_le (i := i) (m := m) (by omega)
    refine x_iload_n dX1_tailLength_4 rfl rfl ?_
    refine x_iconst (y := nI 2) dX1_tailLength_5 rfl ?_
    refine x_iload_n dX1_tailLength_6 rfl rfl ?_
    refine x_imul dX1_tailLength_7 ?_
    refine x_casti (y := nI (2 * t)) (pk_mul _ _) ?_
    refine x_icmp_ge (tgt := 33) dX1_tailLength_8 (by decide) (fun h8 => ?_) (fun h8 => ?_)
    · refine x_iload_n dX1_tailLength_33 rfl rfl ?_
      exact x_ireturn_eq dX1_tailLength_34 rfl (by have hz : tll m t (r + 1) i s = s := if_pos ((nI_leI (by omega) (by omega)).mp h8); rw [hz])
    · refine x_iload_n dX1_tailLength_11 rfl rfl ?_
      refine x_iload_n dX1_tailLength_12 rfl rfl ?_
      refine x_callS (as := [.int (nI i), .int (nI m)]) dX1_tailLength_13 mk_X1_isNew st_X1_isNew ml_RX1_27 (by decide) rfl rfl (Nat.le_of_ble_eq_true rfl) (c_isNew h3 h13 (by omega)) ?_
      refine x_if_eq (tgt := 27) dX1_tailLength_16 (by decide) (fun h16 => ?_) (fun h16 => ?_)
      · refine x_iinc (y := nI (i + 2)) (ls' := [some (.int (nI m)), some (.int (nI t)), some (.int (nI s)), some (.int (nI (i + 2)))]) dX1_tailLength_27 (by decide) rfl rfl (ii_add _ 2) rfl ?_
        refine x_goto (tgt := 4) dX1_tailLength_30 (by decide) ?_
        have hcn : cnew i m = false := by
          cases hq : cnew i m
          · first | rfl | exact absurd (by rw [hq]; rfl) h16
          · first | rfl | (rw [hq] at h16; exact absurd h16 (by decide))
        have hz : tll m t (r + 1) i s = tll m t r (i + 2) s := by
          show (if 2 * t ≤ i then s else tll m t r (i + 2) (if cnew i m then s + csize i m else s)) = _
          rw [if_neg (fun z => h8 (nI_le z (by omega))), hcn]; rfl
        rw [hz]
        exact ih (i + 2) s (by omega) (by have : ¬ 2 * t ≤ i := fun z => h8 (nI_le z (by omega)); omega)
      · refine x_iload_n dX1_tailLength_19 rfl rfl ?_
        refine x_iload_n dX1_tailLength_20 rfl rfl ?_
        refine x_iload_n dX1_tailLength_21 rfl rfl ?_
        refine x_callS (as := [.int (nI i), .int (nI m)]) dX1_tailLength_22 mk_X1_size st_X1_size ml_RX1_31 (by decide) rfl rfl (Nat.le_of_ble_eq_true rfl) (c_size h3 h13 (by omega)) ?_
        refine x_iadd dX1_tailLength_25 ?_
        refine x_casti (y := nI (s + csize i m)) (nI_add _ _) ?_
        refine x_istore_n (ls' := [some (.int (nI m)), some (.int (nI t)), some (.int (nI (s + csize i m))), some (.int (nI i))]) dX1_tailLength_26 rfl (by decide) rfl rfl ?_
        refine x_iinc (y := nI (i + 2)) (ls' := [some (.int (nI m)), some (.int (nI t)), some (.int (nI (s + csize i m))), some (.int (nI (i + 2)))]) dX1_tailLength_27 (by decide) rfl rfl (ii_add _ 2) rfl ?_
        refine x_goto (tgt := 4) dX1_tailLength_30 (by decide) ?_
        have hcn : cnew i m = true := by
          cases hq : cnew i m
          · first | rfl | exact absurd (by rw [hq]; rfl) h16
          · first | rfl | (rw [hq] at h16; exact absurd h16 (by decide))
        have hz : tll m t (r + 1) i s = tll m t r (i + 2) (s + csize i m) := by
          show (if 2 * t ≤ i then s else tll m t r (i + 2) (if cnew i m then s + csize i m else s)) = _
          rw [if_neg (fun z => h8 (nI_le z (by omega))), hcn]; rfl
        rw [hz]
        exact ih (i + 2) (s + csize i m) (by omega) (by have : ¬ 2 * t ≤ i := fun z => h8 (nI_le z (by omega)); omega)
theorem c_tailLength {X : Ev} {M : Hp} {m t : Nat} (h3 : 3 ≤ m) (h13 : m ≤ 13) (ht : t ≤ 8) : Cl X 4 jX1_tailLength [.int (nI m), .int (nI t)] M (some (.int (nI (ctail m t)))) M := by
  refine Cl.of (ls := [some (.int (nI m)), some (.int (nI t)), none, none]) (by decide) rfl (Nat.le_of_ble_eq_true rfl) ?_
  refine x_iconst (y := nI 0) dX1_tailLength_0 rfl ?_
  refine x_istore_n (ls' := [some (.int (nI m)), some (.int (nI t)), some (.int (nI 0)), none]) dX1_tailLength_1 rfl (by decide) rfl rfl ?_
  refine x_iconst (y := nI 1) dX1_tailLength_2 rfl ?_
  refine x_istore_n (ls' := [some (.int (nI m)), some (.int (nI t)), some (.int (nI 0)), some (.int (nI 1))]) dX1_tailLength_3 rfl (by decide) rfl rfl ?_
  exact lp_tail h3 h13 ht (2 * t) 1 0 (by omega) (by decide)
end
section
/-! FIELD -/
def lgs (m a : Nat) : Nat → Nat
  | 0 => 0
  | k + 1 => if pwr m k = a then k else lgs m a k
/-- the i for which A^i is a -/
def lgn (m a : Nat) : Nat := lgs m a (2 ^ m - 1)
theorem lgs_spec {m a : Nat} : ∀ k, (∃ i, i < k ∧ pwr m i = a) → lgs m a k < k ∧ pwr m (lgs m a k) = a
  | 0, h => absurd h (fun ⟨i, h1, _⟩ => by omega)
  | k + 1, h => by
    unfold lgs
    split
    · rename_i hc; exact ⟨by omega, hc⟩
    · rename_i hc
      obtain ⟨i, h1, h2⟩ := h
      have := lgs_spec k ⟨i, by rcases Nat.lt_or_ge i k with h | h; exact h; exact absurd (by rw [show k = i by omega]; exact h2) hc, h2⟩
      exact ⟨by omega, this.2⟩
theorem lgn_spec {m a : Nat} (h3 : 3 ≤ m) (h13 : m ≤ 13) (h0 : a ≠ 0) (ha : a < 2 ^ m) : lgn m a < 2 ^ m - 1 ∧ pwr m (lgn m a) = a := lgs_spec _ (pwr_sur h3 h13 (by omega) ha)
theorem lgn_pwr {m i : Nat} (h3 : 3 ≤ m) (h13 : m ≤ 13) (hi : i < 2 ^ m - 1) : lgn m (pwr m i) = i := by
  have h := lgn_spec h3 h13 (pwr_pos h3 h13 i) (pwr_lt h3 h13 i)
  exact pwr_inj h3 h13 h.1 hi h.2
def fmul (m a b : Nat) : Nat := if a = 0 ∨ b = 0 then 0 else pwr m (lgn m a + lgn m b)
def finv (m a : Nat) : Nat := pwr m (2 ^ m - 1 - lgn m a)
theorem fmul_lt {m a b : Nat} (h3 : 3 ≤ m) (h13 : m ≤ 13) : fmul m a b < 2 ^ m := by
  unfold fmul; split
  · exact Nat.two_pow_pos m
  · exact pwr_lt h3 h13 _
/-- the tables as they are for m -/
def FT (pw lg : Nat → Int32) (m : Nat) : Prop := (3 ≤ m ∧ m ≤ 13) ∧ ∀ i, i < 2 ^ m - 1 → pw i = nI (pwr m i) ∧ lg (pwr m i) = nI i
theorem FT.lg {pw lg : Nat → Int32} {m a : Nat} (h : FT pw lg m) (h0 : a ≠ 0) (ha : a < 2 ^ m) : lg a = nI (lgn m a) := by
  have hl := lgn_spec h.1.1 h.1.2 h0 ha
  have := (h.2 _ hl.1).2
  rw [hl.2] at this
  exact this
theorem nI_xor (a b : Nat) : nI a ^^^ nI b = nI (a ^^^ b) := nx_xor a b
theorem nI_or (a b : Nat) : nI a ||| nI b = nI (a ||| b) := by
  apply Int32.toBitVec_inj.mp
  apply BitVec.eq_of_toNat_eq
  have e8 : ∀ z : Nat, (nI z).toBitVec.toNat = z % 2 ^ 32 := fun z => BitVec.toNat_ofNat z 32
  rw [Int32.toBitVec_or, BitVec.toNat_or, e8, e8, e8, Nat.or_mod_two_pow]
def inr_ (a : Int32) (n : Nat) : Bool := decide (0 ≤ a.toInt ∧ a.toInt ≤ n)
theorem c_has {X : Ev} {M : Hp} {o p q c m : Nat} {pw lg : Nat → Int32} (ho : M[o]? = some (.inr (1, [.ref (p), .ref (q), .ref (c), .int (nI m), .int (nI (2 ^ m - 1))]))) (hp : M[p]? = some (.inl (0, 8192, .inl pw))) (hq : M[q]? = some (.inl (0, 8192, .inl lg))) (hF : FT pw lg m) {z : Int32} : Cl X 0 jX2_has [.ref (o), .int (z)] M (some (.int (if inr_ z (2 ^ m - 1) then 1 else 0))) M := by
  have ht := two_le hF.1.1 hF.1.2
  refine Cl.of (ls := [some (.ref (o)), some (.int (z))]) (by decide) rfl (Nat.le_of_ble_eq_true rfl) ?_
  refine x_iload_n dX2_has_0 rfl rfl ?_
  refine x_if_lt (tgt := 16) dX2_has_1 (by decide) (fun h1 => ?_) (fun h1 => ?_)
  · refine x_iconst (y := nI 0) dX2_has_16 rfl ?_
    exact x_zreturn_eq dX2_has_17 rfl (by rw [show inr_ z (2 ^ m - 1) = false from decide_eq_false (fun hz => by first | (have := Int32.lt_iff_toInt_lt.mp h9; rw [nI_toInt (by omega)] at this; omega) | (have := (i32_neg_iff z).mp h1; omega))]; rfl)
  · refine x_iload_n dX2_has_4 rfl rfl ?_
    refine x_aload_n dX2_has_5 rfl rfl ?_
    refine x_getf (ci := 1) (kf := 4) dX2_has_6 rfl uX2 (by decide) fl_RX2_25 ho rfl ?_
    refine x_icmp_gt (tgt := 16) dX2_has_9 (by decide) (fun h9 => ?_) (fun h9 => ?_)
    · refine x_iconst (y := nI 0) dX2_has_16 rfl ?_
      exact x_zreturn_eq dX2_has_17 rfl (by rw [show inr_ z (2 ^ m - 1) = false from decide_eq_false (fun hz => by first | (have := Int32.lt_iff_toInt_lt.mp h9; rw [nI_toInt (by omega)] at this; omega) | (have := (i32_neg_iff z).mp h1; omega))]; rfl)
    · refine x_iconst (y := nI 1) dX2_has_12 rfl ?_
      refine x_goto (tgt := 17) dX2_has_13 (by decide) ?_
      exact x_zreturn_eq dX2_has_17 rfl (by rw [show inr_ z (2 ^ m - 1) = true from decide_eq_true ⟨(i32_ge_iff z).mp (Int32.not_lt.mp h1), by have := Int32.le_iff_toInt_le.mp (Int32.not_lt.mp h9); rwa [nI_toInt (by omega)] at this⟩]; rfl)
theorem c_powerOfA {X : Ev} {M : Hp} {o p q c m : Nat} {pw lg : Nat → Int32} (ho : M[o]? = some (.inr (1, [.ref (p), .ref (q), .ref (c), .int (nI m), .int (nI (2 ^ m - 1))]))) (hp : M[p]? = some (.inl (0, 8192, .inl pw))) (hq : M[q]? = some (.inl (0, 8192, .inl lg))) (hF : FT pw lg m) {z : Int32} : Cl X 2 jX2_powerOfA [.ref (o), .int (z)] M (some (.int (nI (pwr m (red z (2 ^ m - 1)))))) M := by
  have ht := two_le hF.1.1 hF.1.2
  have hr := red_lt z (n := 2 ^ m - 1) (by omega)
  refine Cl.of (ls := [some (.ref (o)), some (.int (z))]) (by decide) rfl (Nat.le_of_ble_eq_true rfl) ?_
  refine x_aload_n dX2_powerOfA_0 rfl rfl ?_
  refine x_getf (ci := 1) (kf := 0) dX2_powerOfA_1 rfl uX2 (by decide) fl_RX2_9 ho rfl ?_
  refine x_iload_n dX2_powerOfA_4 rfl rfl ?_
  refine x_aload_n dX2_powerOfA_5 rfl rfl ?_
  refine x_getf (ci := 1) (kf := 4) dX2_powerOfA_6 rfl uX2 (by decide) fl_RX2_25 ho rfl ?_
  refine x_callS (as := [.int (z), .int (nI (2 ^ m - 1))]) dX2_powerOfA_9 mk_X1_reduced st_X1_reduced ml_RX2_31 (by decide) rfl rfl (Nat.le_of_ble_eq_true rfl) (c_reduced (by omega) (by omega)) ?_
  refine x_ild (j := red z (2 ^ m - 1)) dX2_powerOfA_12 hp rfl (by omega) (by decide) ?_
  exact x_ireturn_eq dX2_powerOfA_13 rfl ((hF.2 _ hr).1)
theorem c_product {X : Ev} {M : Hp} {o p q c m : Nat} {pw lg : Nat → Int32} (ho : M[o]? = some (.inr (1, [.ref (p), .ref (q), .ref (c), .int (nI m), .int (nI (2 ^ m - 1))]))) (hp : M[p]? = some (.inl (0, 8192, .inl pw))) (hq : M[q]? = some (.inl (0, 8192, .inl lg))) (hF : FT pw lg m) {a b : Nat} (ha : a < 2 ^ m) (hb : b < 2 ^ m) : Cl X 0 jX2_product [.ref (o), .int (nI a), .int (nI b)] M (some (.int (nI (fmul m a b)))) M := by
  have ht := two_le hF.1.1 hF.1.2
  refine Cl.of (ls := [some (.ref (o)), some (.int (nI a)), some (.int (nI b)), none]) (by decide) rfl (Nat.le_of_ble_eq_true rfl) ?_
  refine x_iload_n dX2_product_0 rfl rfl ?_
  refine x_if_eq (tgt := 8) dX2_product_1 (by decide) (fun h1 => ?_) (fun h1 => ?_)
  · refine x_iconst (y := nI 0) dX2_product_8 rfl ?_
    exact x_ireturn_eq dX2_product_9 rfl (by unfold fmul; rw [if_pos (by first | exact Or.inl ((nI_eq (by omega) (by decide)).mp h1) | exact Or.inr ((nI_eq (by omega) (by decide)).mp h5))])
  · refine x_iload_n dX2_product_4 rfl rfl ?_
    refine x_if_ne (tgt := 10) dX2_product_5 (by decide) (fun h5 => ?_) (fun h5 => ?_)
    · have ha0 : a ≠ 0 := fun z => h1 (by rw [z]; rfl)
      have hb0 : b ≠ 0 := fun z => h5 (by rw [z]; rfl)
      have hla := lgn_spec hF.1.1 hF.1.2 ha0 ha
      have hlb := lgn_spec hF.1.1 hF.1.2 hb0 hb
      have hfm : fmul m a b = pwr m (lgn m a + lgn m b) := if_neg (fun z => z.elim ha0 hb0)
      refine x_aload_n dX2_product_10 rfl rfl ?_
      refine x_getf (ci := 1) (kf := 1) dX2_product_11 rfl uX2 (by decide) fl_RX2_15 ho rfl ?_
      refine x_iload_n dX2_product_14 rfl rfl ?_
      refine x_ild (j := a) dX2_product_15 hq rfl (by omega) (by decide) ?_
      refine x_casti (y := nI (lgn m a)) (hF.lg ha0 ha) ?_
      refine x_aload_n dX2_product_16 rfl rfl ?_
      refine x_getf (ci := 1) (kf := 1) dX2_product_17 rfl uX2 (by decide) fl_RX2_15 ho rfl ?_
      refine x_iload_n dX2_product_20 rfl rfl ?_
      refine x_ild (j := b) dX2_product_21 hq rfl (by omega) (by decide) ?_
      refine x_casti (y := nI (lgn m b)) (hF.lg hb0 hb) ?_
      refine x_iadd dX2_product_22 ?_
      refine x_casti (y := nI (lgn m a + lgn m b)) (nI_add _ _) ?_
      refine x_istore_n (ls' := [some (.ref (o)), some (.int (nI a)), some (.int (nI b)), some (.int (nI (lgn m a + lgn m b)))]) dX2_product_23 rfl (by decide) rfl rfl ?_
      refine x_aload_n dX2_product_24 rfl rfl ?_
      refine x_getf (ci := 1) (kf := 0) dX2_product_25 rfl uX2 (by decide) fl_RX2_9 ho rfl ?_
      refine x_iload_n dX2_product_28 rfl rfl ?_
      refine x_aload_n dX2_product_29 rfl rfl ?_
      refine x_getf (ci := 1) (kf := 4) dX2_product_30 rfl uX2 (by decide) fl_RX2_25 ho rfl ?_
      refine x_icmp_lt (tgt := 45) dX2_product_33 (by decide) (fun h33 => ?_) (fun h33 => ?_)
      · refine x_iload_n dX2_product_45 rfl rfl ?_
        refine x_ild (j := lgn m a + lgn m b) dX2_product_46 hp rfl (by have := (nI_ltI (by omega) (by omega)).mp h33; omega) (by decide) ?_
        exact x_ireturn_eq dX2_product_47 rfl (by rw [hfm]; exact (hF.2 _ (by have := (nI_ltI (by omega) (by omega)).mp h33; omega)).1)
      · refine x_iload_n dX2_product_36 rfl rfl ?_
        refine x_aload_n dX2_product_37 rfl rfl ?_
        refine x_getf (ci := 1) (kf := 4) dX2_product_38 rfl uX2 (by decide) fl_RX2_25 ho rfl ?_
        refine x_isub dX2_product_41 ?_
        refine x_casti (y := nI (lgn m a + lgn m b - (2 ^ m - 1))) (pk_sub ((nI_leI (by omega) (by omega)).mp (Int32.not_lt.mp h33))) ?_
        refine x_goto (tgt := 46) dX2_product_42 (by decide) ?_
        refine x_ild (j := lgn m a + lgn m b - (2 ^ m - 1)) dX2_product_46 hp rfl (by omega) (by decide) ?_
        exact x_ireturn_eq dX2_product_47 rfl (by rw [hfm, (hF.2 _ (by omega)).1]; have hge := (nI_leI (by omega) (by omega)).mp (Int32.not_lt.mp h33); have := pwr_per hF.1.1 hF.1.2 (lgn m a + lgn m b - (2 ^ m - 1)); rw [show lgn m a + lgn m b - (2 ^ m - 1) + (2 ^ m - 1) = lgn m a + lgn m b by omega] at this; rw [this])
    · refine x_iconst (y := nI 0) dX2_product_8 rfl ?_
      exact x_ireturn_eq dX2_product_9 rfl (by unfold fmul; rw [if_pos (by first | exact Or.inl ((nI_eq (by omega) (by decide)).mp h1) | exact Or.inr ((nI_eq (by omega) (by decide)).mp h5))])
theorem c_reciprocal {X : Ev} {M : Hp} {o p q c m : Nat} {pw lg : Nat → Int32} (ho : M[o]? = some (.inr (1, [.ref (p), .ref (q), .ref (c), .int (nI m), .int (nI (2 ^ m - 1))]))) (hp : M[p]? = some (.inl (0, 8192, .inl pw))) (hq : M[q]? = some (.inl (0, 8192, .inl lg))) (hF : FT pw lg m) {a : Nat} (ha0 : a ≠ 0) (ha : a < 2 ^ m) : Cl X 0 jX2_reciprocal [.ref (o), .int (nI a)] M (some (.int (nI (finv m a)))) M := by
  have ht := two_le hF.1.1 hF.1.2
  have hla := lgn_spec hF.1.1 hF.1.2 ha0 ha
  refine Cl.of (ls := [some (.ref (o)), some (.int (nI a)), none]) (by decide) rfl (Nat.le_of_ble_eq_true rfl) ?_
  refine x_aload_n dX2_reciprocal_0 rfl rfl ?_
  refine x_getf (ci := 1) (kf := 1) dX2_reciprocal_1 rfl uX2 (by decide) fl_RX2_15 ho rfl ?_
  refine x_iload_n dX2_reciprocal_4 rfl rfl ?_
  refine x_ild (j := a) dX2_reciprocal_5 hq rfl (by omega) (by decide) ?_
  refine x_casti (y := nI (lgn m a)) (hF.lg ha0 ha) ?_
  refine x_istore_n (ls' := [some (.ref (o)), some (.int (nI a)), some (.int (nI (lgn m a)))]) dX2_reciprocal_6 rfl (by decide) rfl rfl ?_
  refine x_aload_n dX2_reciprocal_7 rfl rfl ?_
  refine x_getf (ci := 1) (kf := 0) dX2_reciprocal_8 rfl uX2 (by decide) fl_RX2_9 ho rfl ?_
  refine x_iload_n dX2_reciprocal_11 rfl rfl ?_
  refine x_if_ne (tgt := 19) dX2_reciprocal_12 (by decide) (fun h12 => ?_) (fun h12 => ?_)
  · have hl0 : lgn m a ≠ 0 := fun z => h12 (by rw [z]; rfl)
    refine x_aload_n dX2_reciprocal_19 rfl rfl ?_
    refine x_getf (ci := 1) (kf := 4) dX2_reciprocal_20 rfl uX2 (by decide) fl_RX2_25 ho rfl ?_
    refine x_iload_n dX2_reciprocal_23 rfl rfl ?_
    refine x_isub dX2_reciprocal_24 ?_
    refine x_casti (y := nI (2 ^ m - 1 - lgn m a)) (pk_sub (by omega)) ?_
    refine x_ild (j := 2 ^ m - 1 - lgn m a) dX2_reciprocal_25 hp rfl (by omega) (by decide) ?_
    exact x_ireturn_eq dX2_reciprocal_26 rfl ((hF.2 _ (by omega)).1)
  · have hl0 : lgn m a = 0 := (nI_eq (by omega) (by decide)).mp h12
    refine x_iconst (y := nI 0) dX2_reciprocal_15 rfl ?_
    refine x_goto (tgt := 25) dX2_reciprocal_16 (by decide) ?_
    refine x_ild (j := 0) dX2_reciprocal_25 hp rfl (by omega) (by decide) ?_
    exact x_ireturn_eq dX2_reciprocal_26 rfl (by rw [(hF.2 0 (by omega)).1]; unfold finv; rw [hl0, Nat.sub_zero, (pwr_ord hF.1.1 hF.1.2).2]; rfl)
end
section
/-! FIELD: its tables made; polynomials over it -/
def tpw (pw : Nat → Int32) (m n : Nat) : Nat → Int32 := fun j => if j < n then nI (pwr m j) else pw j
def tlg (lg : Nat → Int32) (m : Nat) : Nat → (Nat → Int32)
  | 0 => lg
  | i + 1 => upd (tlg lg m i) (pwr m i) (nI i)
theorem tpw_step {pw : Nat → Int32} {m i : Nat} : upd (tpw pw m i) i (nI (pwr m i)) = tpw pw m (i + 1) := by
  funext j
  by_cases h : j = i
  · subst h; simp [upd, tpw]
  · rw [pk_un h]; unfold tpw; by_cases h2 : j < i
    · rw [if_pos h2, if_pos (by omega)]
    · rw [if_neg h2, if_neg (by omega)]
theorem tlg_at {lg : Nat → Int32} {m : Nat} (h3 : 3 ≤ m) (h13 : m ≤ 13) : ∀ (k i : Nat), k ≤ 2 ^ m - 1 → i < k → tlg lg m k (pwr m i) = nI i
  | 0, i, _, h => absurd h (by omega)
  | k + 1, i, hk, h => by
    show upd (tlg lg m k) (pwr m k) (nI k) (pwr m i) = nI i
    by_cases he : i = k
    · subst he; exact pk_us
    · rw [pk_un (fun z => he (pwr_inj h3 h13 (by omega) (by omega) z))]
      exact tlg_at h3 h13 k i (by omega) (by omega)
theorem FT.made {pw lg : Nat → Int32} {m : Nat} (h3 : 3 ≤ m) (h13 : m ≤ 13) : FT (tpw pw m (2 ^ m - 1)) (tlg lg m (2 ^ m - 1)) m :=
  ⟨⟨h3, h13⟩, fun i hi => ⟨if_pos hi, tlg_at h3 h13 _ i (Nat.le_refl _) hi⟩⟩
theorem mulx_hi {m a : Nat} (h : 2 ^ m ≤ 2 * a) : (2 * a) ^^^ pn m = mulx m a := by unfold mulx; rw [if_pos h]
theorem mulx_lo {m a : Nat} (h : ¬ 2 ^ m ≤ 2 * a) : 2 * a = mulx m a := by unfold mulx; rw [if_neg h]
theorem sl_1 {a : Nat} (h : a < 2 ^ 20) : nI a <<< (nI 1 &&& 31) = nI (2 * a) := by
  rw [pk_shlN _ 1 (by decide) (by omega)]; congr 1; omega
theorem lp_become {X : Ev} {d : Nat} {M0 M M' : Hp} {v : Option Value} {o p q c m : Nat} {mm od : Int32} {pw lg : Nat → Int32} (ho : M[o]? = some (.inr (1, [.ref (p), .ref (q), .ref (c), .int (mm), .int (od)]))) (hp : M[p]? = some (.inl (0, 8192, .inl (pw)))) (hq : M[q]? = some (.inl (0, 8192, .inl (lg)))) (h3 : 3 ≤ m) (h13 : m ≤ 13) (hop : o ≠ p) (hoq : o ≠ q) (hpq : p ≠ q) (k : G X d jX2_become M0 83 [some (.ref (o)), some (.int (nI m)), some (.int (nI (pn m))), some (.int (nI (pwr m ((2 ^ m - 1))))), some (.int (nI ((2 ^ m - 1))))] [] (((M.set (o) (.inr (1, [.ref (p), .ref (q), .ref (c), .int (nI m), .int (nI (2 ^ m - 1))]))).set (p) (.inl (0, 8192, .inl (tpw pw m ((2 ^ m - 1)))))).set (q) (.inl (0, 8192, .inl (tlg lg m ((2 ^ m - 1)))))) v M') : ∀ (r i : Nat), i + r = (2 ^ m - 1) → G X d jX2_become M0 36 [some (.ref (o)), some (.int (nI m)), some (.int (nI (pn m))), some (.int (nI (pwr m (i)))), some (.int (nI (i)))] [] (((M.set (o) (.inr (1, [.ref (p), .ref (q), .ref (c), .int (nI m), .int (nI (2 ^ m - 1))]))).set (p) (.inl (0, 8192, .inl (tpw pw m (i))))).set (q) (.inl (0, 8192, .inl (tlg lg m (i))))) v M' := by
  have ht := two_le h3 h13
  have hpl := pwr_lt h3 h13
  intro r
  induction r with
  | zero =>
    intro i hi
    have hpi := hpl i
    have hi : i = (2 ^ m - 1) := by omega
    subst hi
    refine x_iload dX2_become_36 rfl ?_
    refine x_aload_n dX2_become_38 rfl rfl ?_
    refine x_getf (ci := 1) (kf := 4) dX2_become_39 rfl uX2 (by decide) fl_RX2_25 (gn (gn (gs ho) (Ne.symm hop)) (Ne.symm hoq)) rfl ?_
    refine x_icmp_ge (tgt := 83) dX2_become_42 (by decide) (fun _ => ?_) (fun h => False.elim (h (nI_le (Nat.le_refl _) (by omega))))
    exact k
  | succ r ih =>
    intro i hi
    have hpi := hpl i
    refine x_iload dX2_become_36 rfl ?_
    refine x_aload_n dX2_become_38 rfl rfl ?_
    refine x_getf (ci := 1) (kf := 4) dX2_become_39 rfl uX2 (by decide) fl_RX2_25 (gn (gn (gs ho) (Ne.symm hop)) (Ne.symm hoq)) rfl ?_
    refine x_icmp_ge (tgt := 83) dX2_become_42 (by decide) (fun h => False.elim (nI_ge (by omega : i < 2 ^ m - 1) (by omega) h)) (fun _ => ?_)
    refine x_aload_n dX2_become_45 rfl rfl ?_
    refine x_getf (ci := 1) (kf := 0) dX2_become_46 rfl uX2 (by decide) fl_RX2_9 (gn (gn (gs ho) (Ne.symm hop)) (Ne.symm hoq)) rfl ?_
    refine x_iload dX2_become_49 rfl ?_
    refine x_iload_n dX2_become_51 rfl rfl ?_
    refine x_ist (j := i) (M1 := (((M.set (o) (.inr (1, [.ref (p), .ref (q), .ref (c), .int (nI m), .int (nI (2 ^ m - 1))]))).set (p) (.inl (0, 8192, .inl (tpw pw m (i + 1))))).set (q) (.inl (0, 8192, .inl (tlg lg m (i)))))) dX2_become_52 (gn (gs (gn hp hop)) (Ne.symm hpq)) rfl (by omega) (by decide) (by rw [show upd (tpw pw m (i)) (i) (nI (pwr m (i))) = (tpw pw m (i + 1)) from tpw_step] <;> exact (ss1 hpq)) ?_
    refine x_aload_n dX2_become_53 rfl rfl ?_
    refine x_getf (ci := 1) (kf := 1) dX2_become_54 rfl uX2 (by decide) fl_RX2_15 (gn (gn (gs ho) (Ne.symm hop)) (Ne.symm hoq)) rfl ?_
    refine x_iload_n dX2_become_57 rfl rfl ?_
    refine x_iload dX2_become_58 rfl ?_
    refine x_ist (j := pwr m (i)) (M1 := (((M.set (o) (.inr (1, [.ref (p), .ref (q), .ref (c), .int (nI m), .int (nI (2 ^ m - 1))]))).set (p) (.inl (0, 8192, .inl (tpw pw m (i + 1))))).set (q) (.inl (0, 8192, .inl (tlg lg m (i + 1)))))) dX2_become_60 (gs (gn (gn hq hoq) hpq)) rfl (by omega) (by decide) (by rw [show upd (tlg lg m (i)) (pwr m (i)) (nI (i)) = (tlg lg m (i + 1)) from rfl] <;> exact (ss0)) ?_
    refine x_iload_n dX2_become_61 rfl rfl ?_
    refine x_iconst (y := nI 1) dX2_become_62 rfl ?_
    refine x_ishl dX2_become_63 ?_
    refine x_casti (y := nI (2 * pwr m i)) (sl_1 (by omega)) ?_
    refine x_istore_n (ls' := [some (.ref (o)), some (.int (nI m)), some (.int (nI (pn m))), some (.int (nI (2 * pwr m i))), some (.int (nI (i)))]) dX2_become_64 rfl (by decide) rfl rfl ?_
    refine x_iload_n dX2_become_65 rfl rfl ?_
    refine x_aload_n dX2_become_66 rfl rfl ?_
    refine x_getf (ci := 1) (kf := 4) dX2_become_67 rfl uX2 (by decide) fl_RX2_25 (gn (gn (gs ho) (Ne.symm hop)) (Ne.symm hoq)) rfl ?_
    refine x_icmp_le (tgt := 77) dX2_become_70 (by decide) (fun h70 => ?_) (fun h70 => ?_)
    · refine x_iinc (y := nI ((i) + 1)) (ls' := [some (.ref (o)), some (.int (nI m)), some (.int (nI (pn m))), some (.int (nI (2 * pwr m i))), some (.int (nI ((i) + 1)))]) dX2_become_77 (by decide) rfl rfl (ii_add _ 1) rfl ?_
      refine x_goto (tgt := 36) dX2_become_80 (by decide) ?_
      rw [show (2 * pwr m i) = pwr m (i + 1) from (mulx_lo (by have := (nI_leI (by omega) (by omega)).mp h70; omega))]
      exact ih (i + 1) (by omega)
    · refine x_iload_n dX2_become_73 rfl rfl ?_
      refine x_iload_n dX2_become_74 rfl rfl ?_
      refine x_ixor dX2_become_75 ?_
      refine x_casti (y := nI ((2 * pwr m i) ^^^ pn m)) (nI_xor _ _) ?_
      refine x_istore_n (ls' := [some (.ref (o)), some (.int (nI m)), some (.int (nI (pn m))), some (.int (nI ((2 * pwr m i) ^^^ pn m))), some (.int (nI (i)))]) dX2_become_76 rfl (by decide) rfl rfl ?_
      refine x_iinc (y := nI ((i) + 1)) (ls' := [some (.ref (o)), some (.int (nI m)), some (.int (nI (pn m))), some (.int (nI ((2 * pwr m i) ^^^ pn m))), some (.int (nI ((i) + 1)))]) dX2_become_77 (by decide) rfl rfl (ii_add _ 1) rfl ?_
      refine x_goto (tgt := 36) dX2_become_80 (by decide) ?_
      rw [show ((2 * pwr m i) ^^^ pn m) = pwr m (i + 1) from (mulx_hi (by have hz := Nat.lt_of_not_le (fun z : 2 * pwr m i ≤ 2 ^ m - 1 => h70 (nI_le z (by omega))); omega))]
      exact ih (i + 1) (by omega)
theorem c_becomeM {X : Ev} {M : Hp} {o p q c m : Nat} {mm od : Int32} {pw lg : Nat → Int32} (ho : M[o]? = some (.inr (1, [.ref (p), .ref (q), .ref (c), .int (mm), .int (od)]))) (hp : M[p]? = some (.inl (0, 8192, .inl (pw)))) (hq : M[q]? = some (.inl (0, 8192, .inl (lg)))) (h3 : 3 ≤ m) (h13 : m ≤ 13) (hop : o ≠ p) (hoq : o ≠ q) (hpq : p ≠ q) (hne : ¬ nI m = mm) : Cl X 0 jX2_become [.ref (o), .int (nI m)] M none (((M.set o (.inr (1, [.ref (p), .ref (q), .ref (c), .int (nI m), .int (nI (2 ^ m - 1))]))).set p (.inl (0, 8192, .inl (tpw pw m (2 ^ m - 1))))).set q (.inl (0, 8192, .inl (tlg lg m (2 ^ m - 1))))) := by
  have ht := two_le h3 h13
  refine Cl.of (ls := [some (.ref (o)), some (.int (nI m)), none, none, none]) (by decide) rfl (Nat.le_of_ble_eq_true rfl) ?_
  refine x_iload_n dX2_become_0 rfl rfl ?_
  refine x_aload_n dX2_become_1 rfl rfl ?_
  refine x_getf (ci := 1) (kf := 3) dX2_become_2 rfl uX2 (by decide) fl_RX2_21 ho rfl ?_
  refine x_icmp_ne (tgt := 9) dX2_become_5 (by decide) (fun _ => ?_) (fun h => False.elim (absurd h hne))
  refine x_aload_n dX2_become_9 rfl rfl ?_
  refine x_iload_n dX2_become_10 rfl rfl ?_
  refine x_putf (ci := 1) (kf := 3) (ty0 := tyX2) (M1 := (M.set (o) (.inr (1, [.ref (p), .ref (q), .ref (c), .int (nI m), .int (od)])))) dX2_become_11 rfl uX2 tyX2_ok nmX2 (by decide) fl_RX2_21 rfl rfl rfl rfl ho (Nat.le_of_ble_eq_true rfl) rfl ?_
  refine x_aload_n dX2_become_14 rfl rfl ?_
  refine x_iconst (y := nI 1) dX2_become_15 rfl ?_
  refine x_iload_n dX2_become_16 rfl rfl ?_
  refine x_ishl dX2_become_17 ?_
  refine x_casti (y := nI (2 ^ m)) (sl_m (by omega)) ?_
  refine x_iconst (y := nI 1) dX2_become_18 rfl ?_
  refine x_isub dX2_become_19 ?_
  refine x_casti (y := nI (2 ^ m - 1)) (pk_sub (by omega)) ?_
  refine x_putf (ci := 1) (kf := 4) (ty0 := tyX2) (M1 := (M.set (o) (.inr (1, [.ref (p), .ref (q), .ref (c), .int (nI m), .int (nI (2 ^ m - 1))])))) dX2_become_20 rfl uX2 tyX2_ok nmX2 (by decide) fl_RX2_25 rfl rfl rfl rfl (gs ho) (Nat.le_of_ble_eq_true rfl) (ss0) ?_
  refine x_gets dX2_become_23 fl_RX2_28 ?_
  refine x_iload_n dX2_become_26 rfl rfl ?_
  refine x_iconst (y := nI 3) dX2_become_27 rfl ?_
  refine x_isub dX2_become_28 ?_
  refine x_casti (y := nI (m - 3)) (pk_sub h3) ?_
  refine x_pald (j := m - 3) dX2_become_29 rfl (by omega) ?_
  refine x_casti (y := nI (pn m)) (pols_nI h3 h13) ?_
  refine x_istore_n (ls' := [some (.ref (o)), some (.int (nI m)), some (.int (nI (pn m))), none, none]) dX2_become_30 rfl (by decide) rfl rfl ?_
  refine x_iconst (y := nI 1) dX2_become_31 rfl ?_
  refine x_istore_n (ls' := [some (.ref (o)), some (.int (nI m)), some (.int (nI (pn m))), some (.int (nI 1)), none]) dX2_become_32 rfl (by decide) rfl rfl ?_
  refine x_iconst (y := nI 0) dX2_become_33 rfl ?_
  refine x_istore (ls' := [some (.ref (o)), some (.int (nI m)), some (.int (nI (pn m))), some (.int (nI 1)), some (.int (nI 0))]) dX2_become_34 (by decide) rfl rfl ?_
  refine G.hp ?_ (lp_become ho hp hq h3 h13 hop hoq hpq (x_ret dX2_become_83 rfl) (2 ^ m - 1) 0 (by omega))
  have e1 : tpw pw m 0 = pw := by funext j; simp [tpw]
  rw [e1]
  show _ = ((M.set o _).set p _).set q (.inl (0, 8192, .inl (lg)))
  rw [← set_id (M := (M.set o (.inr (1, [.ref (p), .ref (q), .ref (c), .int (nI m), .int (nI (2 ^ m - 1))]))).set p (.inl (0, 8192, .inl (pw)))) (gn (gn hq hoq) hpq) rfl, ← set_id (M := M.set o (.inr (1, [.ref (p), .ref (q), .ref (c), .int (nI m), .int (nI (2 ^ m - 1))]))) (gn hp hop) rfl]
theorem c_becomeS {X : Ev} {M : Hp} {o p q c m : Nat} {od : Int32} (ho : M[o]? = some (.inr (1, [.ref p, .ref q, .ref c, .int (nI m), .int od]))) : Cl X 0 jX2_become [.ref o, .int (nI m)] M none M := by
  refine Cl.of (ls := [some (.ref (o)), some (.int (nI m)), none, none, none]) (by decide) rfl (Nat.le_of_ble_eq_true rfl) ?_
  refine x_iload_n dX2_become_0 rfl rfl ?_
  refine x_aload_n dX2_become_1 rfl rfl ?_
  refine x_getf (ci := 1) (kf := 3) dX2_become_2 rfl uX2 (by decide) fl_RX2_21 ho rfl ?_
  refine x_icmp_ne (tgt := 9) dX2_become_5 (by decide) (fun h => False.elim (h rfl)) (fun _ => ?_)
  exact x_ret dX2_become_8 rfl
/-- a polynomial times x + r; deg is its degree -/
def mbr (m : Nat) (c : Nat → Nat) (r deg : Nat) : Nat → Nat := fun j => if j = 0 then fmul m (c 0) r else if j ≤ deg + 1 then c (j - 1) ^^^ fmul m (c j) r else c j
def mbk (m : Nat) (c : Nat → Nat) (r deg k : Nat) : Nat → Nat := fun j => if k < j ∧ j ≤ deg + 1 then c (j - 1) ^^^ fmul m (c j) r else c j
theorem mbk_step {m : Nat} {c : Nat → Nat} {r deg k : Nat} (hk : k + 1 ≤ deg + 1) : upd (fun j => nI (mbk m c r deg (k + 1) j)) (k + 1) (nI (c k ^^^ fmul m (c (k + 1)) r)) = fun j => nI (mbk m c r deg k j) := by
  funext j
  by_cases h : j = k + 1
  · subst h; rw [pk_us]; unfold mbk; rw [if_pos ⟨by omega, hk⟩]; rfl
  · rw [pk_un h]; unfold mbk; congr 1
    by_cases h2 : k + 1 < j ∧ j ≤ deg + 1
    · rw [if_pos h2, if_pos ⟨by omega, h2.2⟩]
    · rw [if_neg h2, if_neg (fun z => h2 ⟨by omega, z.2⟩)]
theorem mbk_0 {m : Nat} {c : Nat → Nat} {r deg : Nat} : upd (fun j => nI (mbk m c r deg 0 j)) 0 (nI (fmul m (c 0) r)) = fun j => nI (mbr m c r deg j) := by
  funext j
  by_cases h : j = 0
  · subst h; rw [pk_us]; unfold mbr; rw [if_pos rfl]
  · rw [pk_un h]; unfold mbk mbr; rw [if_neg h]; congr 1
    by_cases h2 : j ≤ deg + 1
    · rw [if_pos ⟨by omega, h2⟩, if_pos h2]
    · rw [if_neg (fun z => h2 z.2), if_neg h2]
theorem mbk_top {m : Nat} {c : Nat → Nat} {r deg : Nat} : mbk m c r deg (deg + 1) = c := by
  funext j; unfold mbk; rw [if_neg (by omega)]
theorem mbk_lo {m : Nat} {c : Nat → Nat} {r deg k j : Nat} (h : j ≤ k) : mbk m c r deg k j = c j := by
  unfold mbk; rw [if_neg (by omega)]
theorem nI_m {k : Nat} : nI (k + 1) + Int32.ofInt (-1) = nI k := pk_m1 k
theorem nI_p1 {k : Nat} : nI (k + 1) - nI 1 = nI k := pk_sub (by omega)
theorem lp_mbr {X : Ev} {M0 M M' : Hp} {v : Option Value} {o p q c m : Nat} {pw lg : Nat → Int32} {cf : Nat → Nat} (ho : M[o]? = some (.inr (1, [.ref (p), .ref (q), .ref (c), .int (nI m), .int (nI (2 ^ m - 1))]))) (hp : M[p]? = some (.inl (0, 8192, .inl (pw)))) (hq : M[q]? = some (.inl (0, 8192, .inl (lg)))) (hF : FT pw lg m) (hc : M[c]? = some (.inl (0, 14, .inl (fun j => nI (cf j))))) (hcb : ∀ j, cf j < 2 ^ m) (hco : c ≠ o) (hcp : c ≠ p) (hcq : c ≠ q) {r deg : Nat} (hr : r < 2 ^ m) (hdg : deg + 1 < 14) (k : G X 1 jX2_multiplyByRoot M0 40 [some (.ref (o)), some (.int (nI r)), some (.int (nI deg)), some (.int (nI 0))] [] (M.set c (.inl (0, 14, .inl (fun j => nI (mbk m cf r deg 0 j))))) v M') : ∀ (i : Nat), i ≤ deg + 1 → G X 1 jX2_multiplyByRoot M0 4 [some (.ref (o)), some (.int (nI r)), some (.int (nI deg)), some (.int (nI i))] [] (M.set c (.inl (0, 14, .inl (fun j => nI (mbk m cf r deg i j))))) v M' := by
  have ht := two_le hF.1.1 hF.1.2
  intro i
  induction i with
  | zero =>
    intro hi
    refine x_iload_n dX2_multiplyByRoot_4 rfl rfl ?_
    refine x_if_le (tgt := 40) dX2_multiplyByRoot_5 (by decide) (fun _ => ?_) (fun h => False.elim (h (by decide)))
    exact k
  | succ i ih =>
    intro hi
    refine x_iload_n dX2_multiplyByRoot_4 rfl rfl ?_
    refine x_if_le (tgt := 40) dX2_multiplyByRoot_5 (by decide) (fun h => False.elim (nI_nle (by omega) (by omega) h)) (fun _ => ?_)
    refine x_aload_n dX2_multiplyByRoot_8 rfl rfl ?_
    refine x_getf (ci := 1) (kf := 2) dX2_multiplyByRoot_9 rfl uX2 (by decide) fl_RX2_18 (gn ho hco) rfl ?_
    refine x_iload_n dX2_multiplyByRoot_12 rfl rfl ?_
    refine x_aload_n dX2_multiplyByRoot_13 rfl rfl ?_
    refine x_getf (ci := 1) (kf := 2) dX2_multiplyByRoot_14 rfl uX2 (by decide) fl_RX2_18 (gn ho hco) rfl ?_
    refine x_iload_n dX2_multiplyByRoot_17 rfl rfl ?_
    refine x_iconst (y := nI 1) dX2_multiplyByRoot_18 rfl ?_
    refine x_isub dX2_multiplyByRoot_19 ?_
    refine x_casti (y := nI i) nI_p1 ?_
    refine x_ild (j := i) dX2_multiplyByRoot_20 (gs hc) rfl (by omega) (by decide) ?_
    refine x_casti (y := nI (cf i)) (congrArg nI (mbk_lo (by omega))) ?_
    refine x_aload_n dX2_multiplyByRoot_21 rfl rfl ?_
    refine x_aload_n dX2_multiplyByRoot_22 rfl rfl ?_
    refine x_getf (ci := 1) (kf := 2) dX2_multiplyByRoot_23 rfl uX2 (by decide) fl_RX2_18 (gn ho hco) rfl ?_
    refine x_iload_n dX2_multiplyByRoot_26 rfl rfl ?_
    refine x_ild (j := i + 1) dX2_multiplyByRoot_27 (gs hc) rfl (by omega) (by decide) ?_
    refine x_casti (y := nI (cf (i + 1))) (congrArg nI (mbk_lo (by omega))) ?_
    refine x_iload_n dX2_multiplyByRoot_28 rfl rfl ?_
    refine x_callV (ci := 1) (as := [.int (nI (cf (i + 1))), .int (nI r)]) dX2_multiplyByRoot_29 mk_X2_product in_X2_product se_X2_product ml_RX2_53 rfl (gn ho hco) (by decide) rfl rfl (Nat.le_of_ble_eq_true rfl) (c_product (gn ho hco) (gn hp hcp) (gn hq hcq) hF (hcb _) hr) ?_
    refine x_ixor dX2_multiplyByRoot_32 ?_
    refine x_casti (y := nI (cf i ^^^ fmul m (cf (i + 1)) r)) (nI_xor _ _) ?_
    refine x_ist (j := i + 1) (M1 := (M.set (c) (.inl (0, 14, .inl (fun j => nI (mbk m cf r deg i j)))))) dX2_multiplyByRoot_33 (gs hc) rfl (by omega) (by decide) (by rw [show upd (fun j => nI (mbk m cf r deg (i + 1) j)) (i + 1) (nI (cf i ^^^ fmul m (cf (i + 1)) r)) = (fun j => nI (mbk m cf r deg i j)) from (mbk_step (by omega))] <;> exact (ss0)) ?_
    refine x_iinc (y := nI i) (ls' := [some (.ref (o)), some (.int (nI r)), some (.int (nI deg)), some (.int (nI i))]) dX2_multiplyByRoot_34 (by decide) rfl rfl nI_m rfl ?_
    refine x_goto (tgt := 4) dX2_multiplyByRoot_37 (by decide) ?_
    exact ih (by omega)
theorem c_multiplyByRoot {X : Ev} {M : Hp} {o p q c m : Nat} {pw lg : Nat → Int32} {cf : Nat → Nat} (ho : M[o]? = some (.inr (1, [.ref (p), .ref (q), .ref (c), .int (nI m), .int (nI (2 ^ m - 1))]))) (hp : M[p]? = some (.inl (0, 8192, .inl (pw)))) (hq : M[q]? = some (.inl (0, 8192, .inl (lg)))) (hF : FT pw lg m) (hc : M[c]? = some (.inl (0, 14, .inl (fun j => nI (cf j))))) (hcb : ∀ j, cf j < 2 ^ m) (hco : c ≠ o) (hcp : c ≠ p) (hcq : c ≠ q) {r deg : Nat} (hr : r < 2 ^ m) (hdg : deg + 1 < 14) : Cl X 1 jX2_multiplyByRoot [.ref (o), .int (nI r), .int (nI deg)] M none (M.set c (.inl (0, 14, .inl (fun j => nI (mbr m cf r deg j))))) := by
  have ht := two_le hF.1.1 hF.1.2
  refine Cl.of (ls := [some (.ref (o)), some (.int (nI r)), some (.int (nI deg)), none]) (by decide) rfl (Nat.le_of_ble_eq_true rfl) ?_
  refine x_iload_n dX2_multiplyByRoot_0 rfl rfl ?_
  refine x_iconst (y := nI 1) dX2_multiplyByRoot_1 rfl ?_
  refine x_iadd dX2_multiplyByRoot_2 ?_
  refine x_casti (y := nI (deg + 1)) (nI_add _ _) ?_
  refine x_istore_n (ls' := [some (.ref (o)), some (.int (nI r)), some (.int (nI deg)), some (.int (nI (deg + 1)))]) dX2_multiplyByRoot_3 rfl (by decide) rfl rfl ?_
  refine G.hp (set_id hc (c' := .inl (0, 14, .inl (fun j => nI (mbk m cf r deg (deg + 1) j)))) (by rw [mbk_top])) (lp_mbr ho hp hq hF hc hcb hco hcp hcq hr hdg ?_ (deg + 1) (Nat.le_refl _))
  refine x_aload_n dX2_multiplyByRoot_40 rfl rfl ?_
  refine x_getf (ci := 1) (kf := 2) dX2_multiplyByRoot_41 rfl uX2 (by decide) fl_RX2_18 (gn ho hco) rfl ?_
  refine x_iconst (y := nI 0) dX2_multiplyByRoot_44 rfl ?_
  refine x_aload_n dX2_multiplyByRoot_45 rfl rfl ?_
  refine x_aload_n dX2_multiplyByRoot_46 rfl rfl ?_
  refine x_getf (ci := 1) (kf := 2) dX2_multiplyByRoot_47 rfl uX2 (by decide) fl_RX2_18 (gn ho hco) rfl ?_
  refine x_iconst (y := nI 0) dX2_multiplyByRoot_50 rfl ?_
  refine x_ild (j := 0) dX2_multiplyByRoot_51 (gs hc) rfl (by omega) (by decide) ?_
  refine x_casti (y := nI (cf 0)) (congrArg nI (mbk_lo (by omega))) ?_
  refine x_iload_n dX2_multiplyByRoot_52 rfl rfl ?_
  refine x_callV (ci := 1) (as := [.int (nI (cf 0)), .int (nI r)]) dX2_multiplyByRoot_53 mk_X2_product in_X2_product se_X2_product ml_RX2_53 rfl (gn ho hco) (by decide) rfl rfl (Nat.le_of_ble_eq_true rfl) (c_product (gn ho hco) (gn hp hcp) (gn hq hcq) hF (hcb _) hr) ?_
  refine x_ist (j := 0) (M1 := (M.set (c) (.inl (0, 14, .inl (fun j => nI (mbr m cf r deg j)))))) dX2_multiplyByRoot_56 (gs hc) rfl (by omega) (by decide) (by rw [show upd (fun j => nI (mbk m cf r deg 0 j)) (0) (nI (fmul m (cf 0) r)) = (fun j => nI (mbr m cf r deg j)) from mbk_0] <;> exact (ss0)) ?_
  exact x_ret dX2_multiplyByRoot_57 rfl
def exq (n s : Nat) : Nat → Nat
  | 0 => s
  | r + 1 => dbl (exq n s r) n
theorem exq_lt {n s : Nat} (h : s < n) : ∀ r, exq n s r < n
  | 0 => h
  | r + 1 => dbl_lt (exq_lt h r)
/-- the product of x + A^e for the first r of the exponents s, 2 s, 4 s .. -/
def mpc (m s : Nat) : Nat → (Nat → Nat)
  | 0 => fun j => if j = 0 then 1 else 0
  | r + 1 => mbr m (mpc m s r) (pwr m (exq (2 ^ m - 1) s r)) r
theorem xor_lt {m a b : Nat} (ha : a < 2 ^ m) (hb : b < 2 ^ m) : a ^^^ b < 2 ^ m := Nat.xor_lt_two_pow ha hb
theorem mbr_lt {m : Nat} (h3 : 3 ≤ m) (h13 : m ≤ 13) {c : Nat → Nat} {r deg : Nat} (h : ∀ j, c j < 2 ^ m) (j : Nat) : mbr m c r deg j < 2 ^ m := by
  unfold mbr
  split
  · exact fmul_lt h3 h13
  · split
    · exact xor_lt (h _) (fmul_lt h3 h13)
    · exact h j
theorem mpc_lt {m s : Nat} (h3 : 3 ≤ m) (h13 : m ≤ 13) : ∀ (r j : Nat), mpc m s r j < 2 ^ m
  | 0, j => by
    have := (two_le h3 h13).1
    show (if j = 0 then 1 else 0) < _
    split <;> omega
  | r + 1, j => mbr_lt h3 h13 (mpc_lt h3 h13 r) j
def mnum (c : Nat → Nat) : Nat → Nat
  | 0 => 0
  | k + 1 => mnum c k ||| (c k * 2 ^ k)
theorem mpc_0 {m s : Nat} : upd (fun _ => nI 0) 0 (nI 1) = fun j => nI (mpc m s 0 j) := by
  funext j
  show (if j = 0 then nI 1 else nI 0) = nI (if j = 0 then 1 else 0)
  split <;> rfl
theorem sl_k {a k : Nat} (ha : a < 8192) (hk : k ≤ 13) : nI a <<< (nI k &&& 31) = nI (a * 2 ^ k) := by
  have h1 : 2 ^ k ≤ 2 ^ 13 := Nat.pow_le_pow_right (by decide) hk
  have h2 : a * 2 ^ k ≤ 8192 * 2 ^ 13 := Nat.mul_le_mul (by omega) h1
  exact pk_shlN _ k (s_l k (by omega)) (by omega)
theorem lp_min1 {X : Ev} {M0 M M' : Hp} {v : Option Value} {o p q c m : Nat} {pw lg cf : Nat → Int32} (ho : M[o]? = some (.inr (1, [.ref (p), .ref (q), .ref (c), .int (nI m), .int (nI (2 ^ m - 1))]))) (hp : M[p]? = some (.inl (0, 8192, .inl (pw)))) (hq : M[q]? = some (.inl (0, 8192, .inl (lg)))) (hF : FT pw lg m) (hc : M[c]? = some (.inl (0, 14, .inl (cf)))) (hco : c ≠ o) (hcp : c ≠ p) (hcq : c ≠ q) {i : Nat} (hi : i < 2 ^ 31) (k : G X 3 jX2_minimalPolynomial M0 69 [some (.ref (o)), some (.int (nI i)), some (.int (nI (csize i m))), some (.int (nI (exq (2 ^ m - 1) (i % (2 ^ m - 1)) ((csize i m))))), some (.int (nI ((csize i m)))), none] [] (M.set c (.inl (0, 14, .inl (fun j => nI (mpc m (i % (2 ^ m - 1)) ((csize i m)) j))))) v M') : ∀ (t r0 : Nat), r0 + t = (csize i m) → G X 3 jX2_minimalPolynomial M0 36 [some (.ref (o)), some (.int (nI i)), some (.int (nI (csize i m))), some (.int (nI (exq (2 ^ m - 1) (i % (2 ^ m - 1)) (r0)))), some (.int (nI (r0))), none] [] (M.set c (.inl (0, 14, .inl (fun j => nI (mpc m (i % (2 ^ m - 1)) (r0) j))))) v M' := by
  have ht := two_le hF.1.1 hF.1.2
  have hs : i % (2 ^ m - 1) < 2 ^ m - 1 := Nat.mod_lt _ (by omega)
  have hcs := csize_le (i := i) (m := m) (by have := hF.1.1; omega)
  have h13 := hF.1.2
  intro t
  induction t with
  | zero =>
    intro r0 hr0
    have hr0 : r0 = (csize i m) := by omega
    subst hr0
    refine x_iload dX2_minimalPolynomial_36 rfl ?_
    refine x_iload_n dX2_minimalPolynomial_38 rfl rfl ?_
    refine x_icmp_ge (tgt := 69) dX2_minimalPolynomial_39 (by decide) (fun _ => ?_) (fun h => False.elim (h (nI_le (Nat.le_refl _) (by omega))))
    exact k
  | succ t ih =>
    intro r0 hr0
    have he := exq_lt hs r0
    refine x_iload dX2_minimalPolynomial_36 rfl ?_
    refine x_iload_n dX2_minimalPolynomial_38 rfl rfl ?_
    refine x_icmp_ge (tgt := 69) dX2_minimalPolynomial_39 (by decide) (fun h => False.elim (nI_ge (by omega : r0 < (csize i m)) (by omega) h)) (fun _ => ?_)
    refine x_aload_n dX2_minimalPolynomial_42 rfl rfl ?_
    refine x_aload_n dX2_minimalPolynomial_43 rfl rfl ?_
    refine x_getf (ci := 1) (kf := 0) dX2_minimalPolynomial_44 rfl uX2 (by decide) fl_RX2_9 (gn ho hco) rfl ?_
    refine x_iload_n dX2_minimalPolynomial_47 rfl rfl ?_
    refine x_ild (j := exq (2 ^ m - 1) (i % (2 ^ m - 1)) (r0)) dX2_minimalPolynomial_48 (gn hp hcp) rfl (by omega) (by decide) ?_
    refine x_casti (y := nI (pwr m (exq (2 ^ m - 1) (i % (2 ^ m - 1)) r0))) ((hF.2 _ he).1) ?_
    refine x_iload dX2_minimalPolynomial_49 rfl ?_
    refine x_callV (ci := 1) (as := [.int (nI (pwr m (exq (2 ^ m - 1) (i % (2 ^ m - 1)) r0))), .int (nI (r0))]) dX2_minimalPolynomial_51 mk_X2_multiplyByRoot in_X2_multiplyByRoot se_X2_multiplyByRoot ml_RX2_46 rfl (gn ho hco) (by decide) rfl rfl (Nat.le_of_ble_eq_true rfl) (c_multiplyByRoot (gn ho hco) (gn hp hcp) (gn hq hcq) hF (gs hc) (mpc_lt hF.1.1 hF.1.2 r0) hco hcp hcq (pwr_lt hF.1.1 hF.1.2 _) (by omega)) ?_
    refine G.hp (ss0) ?_
    refine x_iload_n dX2_minimalPolynomial_54 rfl rfl ?_
    refine x_aload_n dX2_minimalPolynomial_55 rfl rfl ?_
    refine x_getf (ci := 1) (kf := 4) dX2_minimalPolynomial_56 rfl uX2 (by decide) fl_RX2_25 (gn ho hco) rfl ?_
    refine x_callS (as := [.int (nI (exq (2 ^ m - 1) (i % (2 ^ m - 1)) (r0))), .int (nI (2 ^ m - 1))]) dX2_minimalPolynomial_59 mk_X1_doubled st_X1_doubled ml_RX2_50 (by decide) rfl rfl (Nat.le_of_ble_eq_true rfl) (c_doubled he (by omega)) ?_
    refine x_istore_n (ls' := [some (.ref (o)), some (.int (nI i)), some (.int (nI (csize i m))), some (.int (nI (exq (2 ^ m - 1) (i % (2 ^ m - 1)) (r0 + 1)))), some (.int (nI (r0))), none]) dX2_minimalPolynomial_62 rfl (by decide) rfl rfl ?_
    refine x_iinc (y := nI ((r0) + 1)) (ls' := [some (.ref (o)), some (.int (nI i)), some (.int (nI (csize i m))), some (.int (nI (exq (2 ^ m - 1) (i % (2 ^ m - 1)) (r0 + 1)))), some (.int (nI ((r0) + 1))), none]) dX2_minimalPolynomial_63 (by decide) rfl rfl (ii_add _ 1) rfl ?_
    refine x_goto (tgt := 36) dX2_minimalPolynomial_66 (by decide) ?_
    exact ih (r0 + 1) (by omega)
theorem lp_min2 {X : Ev} {M0 M : Hp} {o p q c m : Nat} {pw lg cf : Nat → Int32} (ho : M[o]? = some (.inr (1, [.ref (p), .ref (q), .ref (c), .int (nI m), .int (nI (2 ^ m - 1))]))) (hp : M[p]? = some (.inl (0, 8192, .inl (pw)))) (hq : M[q]? = some (.inl (0, 8192, .inl (lg)))) (hF : FT pw lg m) (hc : M[c]? = some (.inl (0, 14, .inl (cf)))) (hco : c ≠ o) (hcp : c ≠ p) (hcq : c ≠ q) {i : Nat} (hi : i < 2 ^ 31) : ∀ (t r0 : Nat), r0 + t = (csize i m) + 1 → G X 3 jX2_minimalPolynomial M0 75 [some (.ref (o)), some (.int (nI i)), some (.int (nI (csize i m))), some (.int (nI (exq (2 ^ m - 1) (i % (2 ^ m - 1)) (csize i m)))), some (.int (nI (mnum (mpc m (i % (2 ^ m - 1)) (csize i m)) (r0)))), some (.int (nI (r0)))] [] (M.set c (.inl (0, 14, .inl (fun j => nI (mpc m (i % (2 ^ m - 1)) ((csize i m)) j))))) (some (.int (nI (mnum (mpc m (i % (2 ^ m - 1)) (csize i m)) ((csize i m) + 1))))) (M.set c (.inl (0, 14, .inl (fun j => nI (mpc m (i % (2 ^ m - 1)) ((csize i m)) j))))) := by
  have ht := two_le hF.1.1 hF.1.2
  have hs : i % (2 ^ m - 1) < 2 ^ m - 1 := Nat.mod_lt _ (by omega)
  have hcs := csize_le (i := i) (m := m) (by have := hF.1.1; omega)
  have h13 := hF.1.2
  intro t
  induction t with
  | zero =>
    intro r0 hr0
    have hr0 : r0 = (csize i m) + 1 := by omega
    subst hr0
    refine x_iload dX2_minimalPolynomial_75 rfl ?_
    refine x_iload_n dX2_minimalPolynomial_77 rfl rfl ?_
    refine x_icmp_gt (tgt := 102) dX2_minimalPolynomial_78 (by decide) (fun _ => ?_) (fun h => False.elim (h (nI_lt (by omega) (by omega))))
    refine x_iload dX2_minimalPolynomial_102 rfl ?_
    exact x_ireturn_eq dX2_minimalPolynomial_104 rfl rfl
  | succ t ih =>
    intro r0 hr0
    have hm := mpc_lt hF.1.1 hF.1.2 (s := (i % (2 ^ m - 1))) (csize i m) r0
    refine x_iload dX2_minimalPolynomial_75 rfl ?_
    refine x_iload_n dX2_minimalPolynomial_77 rfl rfl ?_
    refine x_icmp_gt (tgt := 102) dX2_minimalPolynomial_78 (by decide) (fun h => False.elim (nI_nlt (by omega) (by omega) h)) (fun _ => ?_)
    refine x_iload dX2_minimalPolynomial_81 rfl ?_
    refine x_aload_n dX2_minimalPolynomial_83 rfl rfl ?_
    refine x_getf (ci := 1) (kf := 2) dX2_minimalPolynomial_84 rfl uX2 (by decide) fl_RX2_18 (gn ho hco) rfl ?_
    refine x_iload dX2_minimalPolynomial_87 rfl ?_
    refine x_ild (j := r0) dX2_minimalPolynomial_89 (gs hc) rfl (by omega) (by decide) ?_
    refine x_iload dX2_minimalPolynomial_90 rfl ?_
    refine x_ishl dX2_minimalPolynomial_92 ?_
    refine x_casti (y := nI (mpc m (i % (2 ^ m - 1)) (csize i m) r0 * 2 ^ r0)) (sl_k (by omega) (by omega)) ?_
    refine x_ior dX2_minimalPolynomial_93 ?_
    refine x_casti (y := nI (mnum (mpc m (i % (2 ^ m - 1)) (csize i m)) (r0 + 1))) (nI_or _ _) ?_
    refine x_istore (ls' := [some (.ref (o)), some (.int (nI i)), some (.int (nI (csize i m))), some (.int (nI (exq (2 ^ m - 1) (i % (2 ^ m - 1)) (csize i m)))), some (.int (nI (mnum (mpc m (i % (2 ^ m - 1)) (csize i m)) (r0 + 1)))), some (.int (nI (r0)))]) dX2_minimalPolynomial_94 (by decide) rfl rfl ?_
    refine x_iinc (y := nI ((r0) + 1)) (ls' := [some (.ref (o)), some (.int (nI i)), some (.int (nI (csize i m))), some (.int (nI (exq (2 ^ m - 1) (i % (2 ^ m - 1)) (csize i m)))), some (.int (nI (mnum (mpc m (i % (2 ^ m - 1)) (csize i m)) (r0 + 1)))), some (.int (nI ((r0) + 1)))]) dX2_minimalPolynomial_96 (by decide) rfl rfl (ii_add _ 1) rfl ?_
    refine x_goto (tgt := 75) dX2_minimalPolynomial_99 (by decide) ?_
    exact ih (r0 + 1) (by omega)
theorem c_minimalPolynomial {X : Ev} {M : Hp} {o p q c m : Nat} {pw lg cf : Nat → Int32} (ho : M[o]? = some (.inr (1, [.ref (p), .ref (q), .ref (c), .int (nI m), .int (nI (2 ^ m - 1))]))) (hp : M[p]? = some (.inl (0, 8192, .inl (pw)))) (hq : M[q]? = some (.inl (0, 8192, .inl (lg)))) (hF : FT pw lg m) (hc : M[c]? = some (.inl (0, 14, .inl (cf)))) (hco : c ≠ o) (hcp : c ≠ p) (hcq : c ≠ q) {i : Nat} (hi : i < 2 ^ 31) : Cl X 3 jX2_minimalPolynomial [.ref (o), .int (nI i)] M (some (.int (nI (mnum (mpc m (i % (2 ^ m - 1)) (csize i m)) ((csize i m) + 1))))) (M.set c (.inl (0, 14, .inl (fun j => nI (mpc m (i % (2 ^ m - 1)) ((csize i m)) j))))) := by
  have ht := two_le hF.1.1 hF.1.2
  have hs : i % (2 ^ m - 1) < 2 ^ m - 1 := Nat.mod_lt _ (by omega)
  have hcs := csize_le (i := i) (m := m) (by have := hF.1.1; omega)
  have h13 := hF.1.2
  refine Cl.of (ls := [some (.ref (o)), some (.int (nI i)), none, none, none, none]) (by decide) rfl (Nat.le_of_ble_eq_true rfl) ?_
  refine x_iload_n dX2_minimalPolynomial_0 rfl rfl ?_
  refine x_aload_n dX2_minimalPolynomial_1 rfl rfl ?_
  refine x_getf (ci := 1) (kf := 3) dX2_minimalPolynomial_2 rfl uX2 (by decide) fl_RX2_21 ho rfl ?_
  refine x_callS (as := [.int (nI i), .int (nI m)]) dX2_minimalPolynomial_5 mk_X1_size st_X1_size ml_RX2_37 (by decide) rfl rfl (Nat.le_of_ble_eq_true rfl) (c_size hF.1.1 hF.1.2 hi) ?_
  refine x_istore_n (ls' := [some (.ref (o)), some (.int (nI i)), some (.int (nI (csize i m))), none, none, none]) dX2_minimalPolynomial_8 rfl (by decide) rfl rfl ?_
  refine x_aload_n dX2_minimalPolynomial_9 rfl rfl ?_
  refine x_getf (ci := 1) (kf := 2) dX2_minimalPolynomial_10 rfl uX2 (by decide) fl_RX2_18 ho rfl ?_
  refine x_iconst (y := nI 0) dX2_minimalPolynomial_13 rfl ?_
  refine x_callS (as := [.ref (c), .int (nI 0)]) dX2_minimalPolynomial_14 mk_J7_fill_53178 st_J7_fill_53178 ml_RX2_40 (by decide) rfl rfl (Nat.le_of_ble_eq_true rfl) (c_filli hc (by decide)) ?_
  refine x_aload_n dX2_minimalPolynomial_17 rfl rfl ?_
  refine x_getf (ci := 1) (kf := 2) dX2_minimalPolynomial_18 rfl uX2 (by decide) fl_RX2_18 (gn ho hco) rfl ?_
  refine x_iconst (y := nI 0) dX2_minimalPolynomial_21 rfl ?_
  refine x_iconst (y := nI 1) dX2_minimalPolynomial_22 rfl ?_
  refine x_ist (j := 0) (M1 := (M.set (c) (.inl (0, 14, .inl (fun j => nI (mpc m (i % (2 ^ m - 1)) 0 j)))))) dX2_minimalPolynomial_23 (gs hc) rfl (by omega) (by decide) (by rw [show upd (fun _ => nI 0) (0) (nI 1) = (fun j => nI (mpc m (i % (2 ^ m - 1)) 0 j)) from mpc_0] <;> exact (ss0)) ?_
  refine x_iload_n dX2_minimalPolynomial_24 rfl rfl ?_
  refine x_aload_n dX2_minimalPolynomial_25 rfl rfl ?_
  refine x_getf (ci := 1) (kf := 4) dX2_minimalPolynomial_26 rfl uX2 (by decide) fl_RX2_25 (gn ho hco) rfl ?_
  refine x_callS (as := [.int (nI i), .int (nI (2 ^ m - 1))]) dX2_minimalPolynomial_29 mk_X1_reduced st_X1_reduced ml_RX2_31 (by decide) rfl rfl (Nat.le_of_ble_eq_true rfl) (c_reducedN hi (by omega) (by omega)) ?_
  refine x_istore_n (ls' := [some (.ref (o)), some (.int (nI i)), some (.int (nI (csize i m))), some (.int (nI (i % (2 ^ m - 1)))), none, none]) dX2_minimalPolynomial_32 rfl (by decide) rfl rfl ?_
  refine x_iconst (y := nI 0) dX2_minimalPolynomial_33 rfl ?_
  refine x_istore (ls' := [some (.ref (o)), some (.int (nI i)), some (.int (nI (csize i m))), some (.int (nI (i % (2 ^ m - 1)))), some (.int (nI 0)), none]) dX2_minimalPolynomial_34 (by decide) rfl rfl ?_
  refine lp_min1 ho hp hq hF hc hco hcp hcq hi ?_ (csize i m) 0 (by omega)
  refine x_iconst (y := nI 0) dX2_minimalPolynomial_69 rfl ?_
  refine x_istore (ls' := [some (.ref (o)), some (.int (nI i)), some (.int (nI (csize i m))), some (.int (nI (exq (2 ^ m - 1) (i % (2 ^ m - 1)) ((csize i m))))), some (.int (nI 0)), none]) dX2_minimalPolynomial_70 (by decide) rfl rfl ?_
  refine x_iconst (y := nI 0) dX2_minimalPolynomial_72 rfl ?_
  refine x_istore (ls' := [some (.ref (o)), some (.int (nI i)), some (.int (nI (csize i m))), some (.int (nI (exq (2 ^ m - 1) (i % (2 ^ m - 1)) ((csize i m))))), some (.int (nI 0)), some (.int (nI 0))]) dX2_minimalPolynomial_73 (by decide) rfl rfl ?_
  exact lp_min2 ho hp hq hF hc hco hcp hcq hi ((csize i m) + 1) 0 (by omega)
end
section
/-! PAGE: at place g; bits at g + 1, stuck at g + 3, marks at g + 5, their longs behind each; another row at u -/
theorem c_renew {X : Ev} {M : Hp} {g : Nat} {wr : Int32} {bf sf kf : Nat → Int64} (hg : M[g]? = some (.inr (3, [.ref (g + 1), .ref (g + 3), .ref (g + 5), .int (wr)]))) (hB : M[g + 1]? = some (.inr (4, [.ref (g + 2)]))) (hb : M[g + 2]? = some (.inl (1, 34, .inr (.inl (bf))))) (hS : M[g + 3]? = some (.inr (4, [.ref (g + 4)]))) (hs : M[g + 4]? = some (.inl (1, 34, .inr (.inl (sf))))) (hK : M[g + 5]? = some (.inr (4, [.ref (g + 6)]))) (hk : M[g + 6]? = some (.inl (1, 34, .inr (.inl (kf))))) {u : Nat} {uf : Nat → Int64} (hU : M[u]? = some (.inr (4, [.ref (u + 1)]))) (hu : M[u + 1]? = some (.inl (1, 34, .inr (.inl (uf))))) (hd : u + 1 < g ∨ g + 6 < u) : Cl X 2 jX4_renew [.ref (g), .ref (u)] M none ((((M.set (g + 4) (.inl (1, 34, .inr (.inl (fun _ => 0))))).set (g + 6) (.inl (1, 34, .inr (.inl (fun _ => 0))))).set (g + 2) (.inl (1, 34, .inr (.inl (uf))))).set g (.inr (3, [.ref (g + 1), .ref (g + 3), .ref (g + 5), .int (nI 0)]))) := by
  refine Cl.of (ls := [some (.ref (g)), some (.ref (u))]) (by decide) rfl (Nat.le_of_ble_eq_true rfl) ?_
  refine x_aload_n dX4_renew_0 rfl rfl ?_
  refine x_getf (ci := 3) (kf := 1) dX4_renew_1 rfl uX4 (by decide) fl_RX4_18 hg rfl ?_
  refine x_callV (ci := 4) (as := []) dX4_renew_4 mk_X5_clear in_X5_clear se_X5_clear ml_RX4_24 rfl hS (by decide) rfl rfl (Nat.le_of_ble_eq_true rfl) (c_clear hS hs) ?_
  refine x_aload_n dX4_renew_7 rfl rfl ?_
  refine x_getf (ci := 3) (kf := 2) dX4_renew_8 rfl uX4 (by decide) fl_RX4_21 (gn hg (by omega)) rfl ?_
  refine x_callV (ci := 4) (as := []) dX4_renew_11 mk_X5_clear in_X5_clear se_X5_clear ml_RX4_24 rfl (gn hK (by omega)) (by decide) rfl rfl (Nat.le_of_ble_eq_true rfl) (c_clear (gn hK (by omega)) (gn hk (by omega))) ?_
  refine x_aload_n dX4_renew_14 rfl rfl ?_
  refine x_getf (ci := 3) (kf := 0) dX4_renew_15 rfl uX4 (by decide) fl_RX4_12 (gn (gn hg (by omega)) (by omega)) rfl ?_
  refine x_aload_n dX4_renew_18 rfl rfl ?_
  refine x_callV (ci := 4) (as := [.ref (u)]) dX4_renew_19 mk_X5_become in_X5_become se_X5_become ml_RX4_27 rfl (gn (gn hB (by omega)) (by omega)) (by decide) rfl rfl (Nat.le_of_ble_eq_true rfl) (c_become (gn (gn hB (by omega)) (by omega)) (gn (gn hb (by omega)) (by omega)) (gn (gn hU (by omega)) (by omega)) (gn (gn hu (by omega)) (by omega))) ?_
  refine x_aload_n dX4_renew_22 rfl rfl ?_
  refine x_iconst (y := nI 0) dX4_renew_23 rfl ?_
  refine x_putf (ci := 3) (kf := 3) (ty0 := tyX4) (M1 := ((((M.set (g + 4) (.inl (1, 34, .inr (.inl (fun _ => 0))))).set (g + 6) (.inl (1, 34, .inr (.inl (fun _ => 0))))).set (g + 2) (.inl (1, 34, .inr (.inl (uf))))).set (g) (.inr (3, [.ref (g + 1), .ref (g + 3), .ref (g + 5), .int (nI 0)])))) dX4_renew_24 rfl uX4 tyX4_ok nmX4 (by decide) fl_RX4_31 rfl rfl rfl rfl (gn (gn (gn hg (by omega)) (by omega)) (by omega)) (Nat.le_of_ble_eq_true rfl) rfl ?_
  exact x_ret dX4_renew_27 rfl
def rwp (f o s : Nat → Int64) (n : Nat) : Nat → Int64 := fun j => if j < n then f j ||| (o j &&& (s j ^^^ (-1))) else f j
theorem rwp_step {f o s : Nat → Int64} {i : Nat} : vp_updL (rwp f o s i) i (rwp f o s i i ||| (o i &&& (s i ^^^ (-1)))) = rwp f o s (i + 1) := by
  funext j
  unfold rwp
  by_cases h : j = i
  · subst h; simp [vp_updL]
  · rw [pk_uLn h]; by_cases h2 : j < i
    · rw [if_pos h2, if_pos (by omega)]
    · rw [if_neg h2, if_neg (by omega)]
def rpg (f w s : Nat → Int64) (n : Nat) : Nat → Int64 := fun j => if j < n then f j &&& (w j ||| s j) else f j
theorem rpg_step {f w s : Nat → Int64} {i : Nat} : vp_updL (rpg f w s i) i (rpg f w s i i &&& (w i ||| s i)) = rpg f w s (i + 1) := by
  funext j
  unfold rpg
  by_cases h : j = i
  · subst h; simp [vp_updL]
  · rw [pk_uLn h]; by_cases h2 : j < i
    · rw [if_pos h2, if_pos (by omega)]
    · rw [if_neg h2, if_neg (by omega)]
theorem rwp_0 {f o s : Nat → Int64} : rwp f o s 0 = f := by funext j; simp [rwp]
theorem rpg_0 {f o s : Nat → Int64} : rpg f o s 0 = f := by funext j; simp [rpg]
theorem lp_wipe {X : Ev} {d : Nat} {M0 M M' : Hp} {v : Option Value} {g : Nat} {wr : Int32} {bf sf kf : Nat → Int64} (hg : M[g]? = some (.inr (3, [.ref (g + 1), .ref (g + 3), .ref (g + 5), .int (wr)]))) (hB : M[g + 1]? = some (.inr (4, [.ref (g + 2)]))) (hb : M[g + 2]? = some (.inl (1, 34, .inr (.inl (bf))))) (hS : M[g + 3]? = some (.inr (4, [.ref (g + 4)]))) (hs : M[g + 4]? = some (.inl (1, 34, .inr (.inl (sf))))) (hK : M[g + 5]? = some (.inr (4, [.ref (g + 6)]))) (hk : M[g + 6]? = some (.inl (1, 34, .inr (.inl (kf))))) {u : Nat} {uf : Nat → Int64} (hU : M[u]? = some (.inr (4, [.ref (u + 1)]))) (hu : M[u + 1]? = some (.inl (1, 34, .inr (.inl (uf))))) (hd : u + 1 < g ∨ g + 6 < u) (k : G X d jX4_wipe M0 46 [some (.ref (g)), some (.ref (u)), some (.int (nI 34))] [] (M.set (g + 2) (.inl (1, 34, .inr (.inl (rwp bf uf sf (34)))))) v M') : ∀ (r i : Nat), i + r = 34 → G X d jX4_wipe M0 2 [some (.ref (g)), some (.ref (u)), some (.int (nI (i)))] [] (M.set (g + 2) (.inl (1, 34, .inr (.inl (rwp bf uf sf (i)))))) v M' := by
  intro r
  induction r with
  | zero =>
    intro i hi
    have hi : i = 34 := by omega
    subst hi
    refine x_iload_n dX4_wipe_2 rfl rfl ?_
    refine x_bipush (y := nI 34) dX4_wipe_3 rfl ?_
    refine x_icmp_ge (tgt := 46) dX4_wipe_5 (by decide) (fun _ => ?_) (fun h => False.elim (h (nI_le (Nat.le_refl _) (by decide))))
    exact k
  | succ r ih =>
    intro i hi
    refine x_iload_n dX4_wipe_2 rfl rfl ?_
    refine x_bipush (y := nI 34) dX4_wipe_3 rfl ?_
    refine x_icmp_ge (tgt := 46) dX4_wipe_5 (by decide) (fun h => False.elim (nI_ge (by omega : i < 34) (by decide) h)) (fun _ => ?_)
    refine x_aload_n dX4_wipe_8 rfl rfl ?_
    refine x_getf (ci := 3) (kf := 0) dX4_wipe_9 rfl uX4 (by decide) fl_RX4_12 (gn hg (by omega)) rfl ?_
    refine x_getf (ci := 4) (kf := 0) dX4_wipe_12 rfl uX5 (by decide) fl_RX4_35 (gn hB (by omega)) rfl ?_
    refine x_iload_n dX4_wipe_15 rfl rfl ?_
    refine x_dup2 dX4_wipe_16 rfl rfl ?_
    refine x_lld (j := i) dX4_wipe_17 (gs hb) rfl (by omega) (by decide) ?_
    refine x_aload_n dX4_wipe_18 rfl rfl ?_
    refine x_getf (ci := 4) (kf := 0) dX4_wipe_19 rfl uX5 (by decide) fl_RX4_35 (gn hU (by omega)) rfl ?_
    refine x_iload_n dX4_wipe_22 rfl rfl ?_
    refine x_lld (j := i) dX4_wipe_23 (gn hu (by omega)) rfl (by omega) (by decide) ?_
    refine x_aload_n dX4_wipe_24 rfl rfl ?_
    refine x_getf (ci := 3) (kf := 1) dX4_wipe_25 rfl uX4 (by decide) fl_RX4_18 (gn hg (by omega)) rfl ?_
    refine x_getf (ci := 4) (kf := 0) dX4_wipe_28 rfl uX5 (by decide) fl_RX4_35 (gn hS (by omega)) rfl ?_
    refine x_iload_n dX4_wipe_31 rfl rfl ?_
    refine x_lld (j := i) dX4_wipe_32 (gn hs (by omega)) rfl (by omega) (by decide) ?_
    refine x_ldc2 (y := (-1)) dX4_wipe_33 kl_RX4_39 ?_
    refine x_lxor dX4_wipe_36 ?_
    refine x_land dX4_wipe_37 ?_
    refine x_lor dX4_wipe_38 ?_
    refine x_lst (j := i) (M1 := (M.set (g + 2) (.inl (1, 34, .inr (.inl (rwp bf uf sf (i + 1))))))) dX4_wipe_39 (gs hb) rfl (by omega) (by decide) (by rw [show vp_updL (rwp bf uf sf (i)) (i) (((rwp bf uf sf (i)) (i)) ||| ((uf (i)) &&& ((sf (i)) ^^^ ((-1))))) = (rwp bf uf sf (i + 1)) from rwp_step] <;> exact (ss0)) ?_
    refine x_iinc (y := nI ((i) + 1)) (ls' := [some (.ref (g)), some (.ref (u)), some (.int (nI ((i) + 1)))]) dX4_wipe_40 (by decide) rfl rfl (ii_add _ 1) rfl ?_
    refine x_goto (tgt := 2) dX4_wipe_43 (by decide) ?_
    exact ih (i + 1) (by omega)
theorem c_wipe {X : Ev} {M : Hp} {g : Nat} {wr : Int32} {bf sf kf : Nat → Int64} (hg : M[g]? = some (.inr (3, [.ref (g + 1), .ref (g + 3), .ref (g + 5), .int (wr)]))) (hB : M[g + 1]? = some (.inr (4, [.ref (g + 2)]))) (hb : M[g + 2]? = some (.inl (1, 34, .inr (.inl (bf))))) (hS : M[g + 3]? = some (.inr (4, [.ref (g + 4)]))) (hs : M[g + 4]? = some (.inl (1, 34, .inr (.inl (sf))))) (hK : M[g + 5]? = some (.inr (4, [.ref (g + 6)]))) (hk : M[g + 6]? = some (.inl (1, 34, .inr (.inl (kf))))) {u : Nat} {uf : Nat → Int64} (hU : M[u]? = some (.inr (4, [.ref (u + 1)]))) (hu : M[u + 1]? = some (.inl (1, 34, .inr (.inl (uf))))) (hd : u + 1 < g ∨ g + 6 < u) : Cl X 2 jX4_wipe [.ref (g), .ref (u)] M none (((M.set (g + 2) (.inl (1, 34, .inr (.inl (rwp bf uf sf 34))))).set (g + 6) (.inl (1, 34, .inr (.inl (fun _ => 0))))).set g (.inr (3, [.ref (g + 1), .ref (g + 3), .ref (g + 5), .int (wr + nI 1)]))) := by
  refine Cl.of (ls := [some (.ref (g)), some (.ref (u)), none]) (by decide) rfl (Nat.le_of_ble_eq_true rfl) ?_
  refine x_iconst (y := nI 0) dX4_wipe_0 rfl ?_
  refine x_istore_n (ls' := [some (.ref (g)), some (.ref (u)), some (.int (nI 0))]) dX4_wipe_1 rfl (by decide) rfl rfl ?_
  refine G.hp (set_id hb (c' := .inl (1, 34, .inr (.inl (rwp bf uf sf 0)))) (by rw [rwp_0])) (lp_wipe hg hB hb hS hs hK hk hU hu hd ?_ 34 0 rfl)
  refine x_aload_n dX4_wipe_46 rfl rfl ?_
  refine x_getf (ci := 3) (kf := 2) dX4_wipe_47 rfl uX4 (by decide) fl_RX4_21 (gn hg (by omega)) rfl ?_
  refine x_callV (ci := 4) (as := []) dX4_wipe_50 mk_X5_clear in_X5_clear se_X5_clear ml_RX4_24 rfl (gn hK (by omega)) (by decide) rfl rfl (Nat.le_of_ble_eq_true rfl) (c_clear (gn hK (by omega)) (gn hk (by omega))) ?_
  refine x_aload_n dX4_wipe_53 rfl rfl ?_
  refine x_dup dX4_wipe_54 rfl ?_
  refine x_getf (ci := 3) (kf := 3) dX4_wipe_55 rfl uX4 (by decide) fl_RX4_31 (gn (gn hg (by omega)) (by omega)) rfl ?_
  refine x_iconst (y := nI 1) dX4_wipe_58 rfl ?_
  refine x_iadd dX4_wipe_59 ?_
  refine x_putf (ci := 3) (kf := 3) (ty0 := tyX4) (M1 := (((M.set (g + 2) (.inl (1, 34, .inr (.inl (rwp bf uf sf 34))))).set (g + 6) (.inl (1, 34, .inr (.inl (fun _ => 0))))).set (g) (.inr (3, [.ref (g + 1), .ref (g + 3), .ref (g + 5), .int ((wr) + (nI 1))])))) dX4_wipe_60 rfl uX4 tyX4_ok nmX4 (by decide) fl_RX4_31 rfl rfl rfl rfl (gn (gn hg (by omega)) (by omega)) (Nat.le_of_ble_eq_true rfl) rfl ?_
  exact x_ret dX4_wipe_63 rfl
theorem lp_program {X : Ev} {d : Nat} {M0 M M' : Hp} {v : Option Value} {g : Nat} {wr : Int32} {bf sf kf : Nat → Int64} (hg : M[g]? = some (.inr (3, [.ref (g + 1), .ref (g + 3), .ref (g + 5), .int (wr)]))) (hB : M[g + 1]? = some (.inr (4, [.ref (g + 2)]))) (hb : M[g + 2]? = some (.inl (1, 34, .inr (.inl (bf))))) (hS : M[g + 3]? = some (.inr (4, [.ref (g + 4)]))) (hs : M[g + 4]? = some (.inl (1, 34, .inr (.inl (sf))))) (hK : M[g + 5]? = some (.inr (4, [.ref (g + 6)]))) (hk : M[g + 6]? = some (.inl (1, 34, .inr (.inl (kf))))) {u : Nat} {uf : Nat → Int64} (hU : M[u]? = some (.inr (4, [.ref (u + 1)]))) (hu : M[u + 1]? = some (.inl (1, 34, .inr (.inl (uf))))) (hd : u + 1 < g ∨ g + 6 < u) (k : G X d jX4_program M0 42 [some (.ref (g)), some (.ref (u)), some (.int (nI 34))] [] (M.set (g + 2) (.inl (1, 34, .inr (.inl (rpg bf uf sf (34)))))) v M') : ∀ (r i : Nat), i + r = 34 → G X d jX4_program M0 2 [some (.ref (g)), some (.ref (u)), some (.int (nI (i)))] [] (M.set (g + 2) (.inl (1, 34, .inr (.inl (rpg bf uf sf (i)))))) v M' := by
  intro r
  induction r with
  | zero =>
    intro i hi
    have hi : i = 34 := by omega
    subst hi
    refine x_iload_n dX4_program_2 rfl rfl ?_
    refine x_bipush (y := nI 34) dX4_program_3 rfl ?_
    refine x_icmp_ge (tgt := 42) dX4_program_5 (by decide) (fun _ => ?_) (fun h => False.elim (h (nI_le (Nat.le_refl _) (by decide))))
    exact k
  | succ r ih =>
    intro i hi
    refine x_iload_n dX4_program_2 rfl rfl ?_
    refine x_bipush (y := nI 34) dX4_program_3 rfl ?_
    refine x_icmp_ge (tgt := 42) dX4_program_5 (by decide) (fun h => False.elim (nI_ge (by omega : i < 34) (by decide) h)) (fun _ => ?_)
    refine x_aload_n dX4_program_8 rfl rfl ?_
    refine x_getf (ci := 3) (kf := 0) dX4_program_9 rfl uX4 (by decide) fl_RX4_12 (gn hg (by omega)) rfl ?_
    refine x_getf (ci := 4) (kf := 0) dX4_program_12 rfl uX5 (by decide) fl_RX4_35 (gn hB (by omega)) rfl ?_
    refine x_iload_n dX4_program_15 rfl rfl ?_
    refine x_dup2 dX4_program_16 rfl rfl ?_
    refine x_lld (j := i) dX4_program_17 (gs hb) rfl (by omega) (by decide) ?_
    refine x_aload_n dX4_program_18 rfl rfl ?_
    refine x_getf (ci := 4) (kf := 0) dX4_program_19 rfl uX5 (by decide) fl_RX4_35 (gn hU (by omega)) rfl ?_
    refine x_iload_n dX4_program_22 rfl rfl ?_
    refine x_lld (j := i) dX4_program_23 (gn hu (by omega)) rfl (by omega) (by decide) ?_
    refine x_aload_n dX4_program_24 rfl rfl ?_
    refine x_getf (ci := 3) (kf := 1) dX4_program_25 rfl uX4 (by decide) fl_RX4_18 (gn hg (by omega)) rfl ?_
    refine x_getf (ci := 4) (kf := 0) dX4_program_28 rfl uX5 (by decide) fl_RX4_35 (gn hS (by omega)) rfl ?_
    refine x_iload_n dX4_program_31 rfl rfl ?_
    refine x_lld (j := i) dX4_program_32 (gn hs (by omega)) rfl (by omega) (by decide) ?_
    refine x_lor dX4_program_33 ?_
    refine x_land dX4_program_34 ?_
    refine x_lst (j := i) (M1 := (M.set (g + 2) (.inl (1, 34, .inr (.inl (rpg bf uf sf (i + 1))))))) dX4_program_35 (gs hb) rfl (by omega) (by decide) (by rw [show vp_updL (rpg bf uf sf (i)) (i) (((rpg bf uf sf (i)) (i)) &&& ((uf (i)) ||| (sf (i)))) = (rpg bf uf sf (i + 1)) from rpg_step] <;> exact (ss0)) ?_
    refine x_iinc (y := nI ((i) + 1)) (ls' := [some (.ref (g)), some (.ref (u)), some (.int (nI ((i) + 1)))]) dX4_program_36 (by decide) rfl rfl (ii_add _ 1) rfl ?_
    refine x_goto (tgt := 2) dX4_program_39 (by decide) ?_
    exact ih (i + 1) (by omega)
theorem c_program {X : Ev} {M : Hp} {g : Nat} {wr : Int32} {bf sf kf : Nat → Int64} (hg : M[g]? = some (.inr (3, [.ref (g + 1), .ref (g + 3), .ref (g + 5), .int (wr)]))) (hB : M[g + 1]? = some (.inr (4, [.ref (g + 2)]))) (hb : M[g + 2]? = some (.inl (1, 34, .inr (.inl (bf))))) (hS : M[g + 3]? = some (.inr (4, [.ref (g + 4)]))) (hs : M[g + 4]? = some (.inl (1, 34, .inr (.inl (sf))))) (hK : M[g + 5]? = some (.inr (4, [.ref (g + 6)]))) (hk : M[g + 6]? = some (.inl (1, 34, .inr (.inl (kf))))) {u : Nat} {uf : Nat → Int64} (hU : M[u]? = some (.inr (4, [.ref (u + 1)]))) (hu : M[u + 1]? = some (.inl (1, 34, .inr (.inl (uf))))) (hd : u + 1 < g ∨ g + 6 < u) : Cl X 2 jX4_program [.ref (g), .ref (u)] M (some (.int (nI (rones (fun j => rpg bf uf sf 34 j ^^^ uf j) 34)))) (M.set (g + 2) (.inl (1, 34, .inr (.inl (rpg bf uf sf 34))))) := by
  refine Cl.of (ls := [some (.ref (g)), some (.ref (u)), none]) (by decide) rfl (Nat.le_of_ble_eq_true rfl) ?_
  refine x_iconst (y := nI 0) dX4_program_0 rfl ?_
  refine x_istore_n (ls' := [some (.ref (g)), some (.ref (u)), some (.int (nI 0))]) dX4_program_1 rfl (by decide) rfl rfl ?_
  refine G.hp (set_id hb (c' := .inl (1, 34, .inr (.inl (rpg bf uf sf 0)))) (by rw [rpg_0])) (lp_program hg hB hb hS hs hK hk hU hu hd ?_ 34 0 rfl)
  refine x_aload_n dX4_program_42 rfl rfl ?_
  refine x_getf (ci := 3) (kf := 0) dX4_program_43 rfl uX4 (by decide) fl_RX4_12 (gn hg (by omega)) rfl ?_
  refine x_aload_n dX4_program_46 rfl rfl ?_
  refine x_callV (ci := 4) (as := [.ref (u)]) dX4_program_47 mk_X5_apart in_X5_apart se_X5_apart ml_RX4_41 rfl (gn hB (by omega)) (by decide) rfl rfl (Nat.le_of_ble_eq_true rfl) (c_apart (gn hB (by omega)) (gs hb) (gn hU (by omega)) (gn hu (by omega))) ?_
  exact x_ireturn_eq dX4_program_50 rfl rfl
theorem bz {b : Bool} : nI 1 - nI b.toNat = nI (!b).toNat := by cases b <;> rfl
theorem bz0 {b : Bool} : nI b.toNat = 0 ↔ b = false := by cases b <;> decide
def rflip (f s : Nat → Int64) (k : Nat) : Nat → Int64 := if rb s k then f else rset f k (!(rb f k))
theorem c_turn {X : Ev} {M : Hp} {g : Nat} {wr : Int32} {bf sf kf : Nat → Int64} (hg : M[g]? = some (.inr (3, [.ref (g + 1), .ref (g + 3), .ref (g + 5), .int (wr)]))) (hB : M[g + 1]? = some (.inr (4, [.ref (g + 2)]))) (hb : M[g + 2]? = some (.inl (1, 34, .inr (.inl (bf))))) (hS : M[g + 3]? = some (.inr (4, [.ref (g + 4)]))) (hs : M[g + 4]? = some (.inl (1, 34, .inr (.inl (sf))))) (hK : M[g + 5]? = some (.inr (4, [.ref (g + 6)]))) (hk : M[g + 6]? = some (.inl (1, 34, .inr (.inl (kf))))) {k : Nat} (hk2 : k < 2176) : Cl X 1 jX4_turn [.ref (g), .int (nI k)] M (some (.int (nI (rb (rflip bf sf k) k).toNat))) (M.set (g + 2) (.inl (1, 34, .inr (.inl (rflip bf sf k))))) := by
  refine Cl.of (ls := [some (.ref (g)), some (.int (nI k))]) (by decide) rfl (Nat.le_of_ble_eq_true rfl) ?_
  cases hq : rb sf k with
  | false =>
    have hfl : rflip bf sf k = rset bf k (!(rb bf k)) := by unfold rflip; rw [hq]; rfl
    rw [hfl]
    refine x_aload_n dX4_turn_0 rfl rfl ?_
    refine x_getf (ci := 3) (kf := 1) dX4_turn_1 rfl uX4 (by decide) fl_RX4_18 hg rfl ?_
    refine x_iload_n dX4_turn_4 rfl rfl ?_
    refine x_callV (ci := 4) (as := [.int (nI k)]) dX4_turn_5 mk_X5_at in_X5_at se_X5_at ml_RX4_45 rfl hS (by decide) rfl rfl (Nat.le_of_ble_eq_true rfl) (c_at hS hs hk2) ?_
    refine x_if_ne (tgt := 29) dX4_turn_8 (by decide) (fun h => False.elim (h (by rw [hq]; rfl))) (fun _ => ?_)
    refine x_aload_n dX4_turn_11 rfl rfl ?_
    refine x_getf (ci := 3) (kf := 0) dX4_turn_12 rfl uX4 (by decide) fl_RX4_12 hg rfl ?_
    refine x_iload_n dX4_turn_15 rfl rfl ?_
    refine x_iconst (y := nI 1) dX4_turn_16 rfl ?_
    refine x_aload_n dX4_turn_17 rfl rfl ?_
    refine x_getf (ci := 3) (kf := 0) dX4_turn_18 rfl uX4 (by decide) fl_RX4_12 hg rfl ?_
    refine x_iload_n dX4_turn_21 rfl rfl ?_
    refine x_callV (ci := 4) (as := [.int (nI k)]) dX4_turn_22 mk_X5_at in_X5_at se_X5_at ml_RX4_45 rfl hB (by decide) rfl rfl (Nat.le_of_ble_eq_true rfl) (c_at hB hb hk2) ?_
    refine x_isub dX4_turn_25 ?_
    refine x_casti (y := nI (!(rb bf k)).toNat) bz ?_
    refine x_callV (ci := 4) (as := [.int (nI k), .int (nI (!(rb bf k)).toNat)]) dX4_turn_26 mk_X5_set in_X5_set se_X5_set ml_RX4_49 rfl hB (by decide) rfl rfl (Nat.le_of_ble_eq_true rfl) (c_set hB hb hk2 (b0 := !(rb bf k)) bz0) ?_
    refine x_aload_n dX4_turn_29 rfl rfl ?_
    refine x_getf (ci := 3) (kf := 0) dX4_turn_30 rfl uX4 (by decide) fl_RX4_12 (gn hg (by omega)) rfl ?_
    refine x_iload_n dX4_turn_33 rfl rfl ?_
    refine x_callV (ci := 4) (as := [.int (nI k)]) dX4_turn_34 mk_X5_at in_X5_at se_X5_at ml_RX4_45 rfl (gn hB (by omega)) (by decide) rfl rfl (Nat.le_of_ble_eq_true rfl) (c_at (gn hB (by omega)) (gs hb) hk2) ?_
    exact x_ireturn_eq dX4_turn_37 rfl rfl
  | true =>
    have hfl : rflip bf sf k = bf := by unfold rflip; rw [hq]; rfl
    rw [hfl, ← set_id hb rfl]
    refine x_aload_n dX4_turn_0 rfl rfl ?_
    refine x_getf (ci := 3) (kf := 1) dX4_turn_1 rfl uX4 (by decide) fl_RX4_18 hg rfl ?_
    refine x_iload_n dX4_turn_4 rfl rfl ?_
    refine x_callV (ci := 4) (as := [.int (nI k)]) dX4_turn_5 mk_X5_at in_X5_at se_X5_at ml_RX4_45 rfl hS (by decide) rfl rfl (Nat.le_of_ble_eq_true rfl) (c_at hS hs hk2) ?_
    refine x_if_ne (tgt := 29) dX4_turn_8 (by decide) (fun _ => ?_) (fun h => False.elim (absurd h (by rw [hq]; decide)))
    refine x_aload_n dX4_turn_29 rfl rfl ?_
    refine x_getf (ci := 3) (kf := 0) dX4_turn_30 rfl uX4 (by decide) fl_RX4_12 hg rfl ?_
    refine x_iload_n dX4_turn_33 rfl rfl ?_
    refine x_callV (ci := 4) (as := [.int (nI k)]) dX4_turn_34 mk_X5_at in_X5_at se_X5_at ml_RX4_45 rfl hB (by decide) rfl rfl (Nat.le_of_ble_eq_true rfl) (c_at hB hb hk2) ?_
    exact x_ireturn_eq dX4_turn_37 rfl rfl
theorem z01_ne {z : Nat} (hz : z ≤ 1) : ¬ nI z = -1 := by
  have hz2 : z = 0 ∨ z = 1 := by omega
  rcases hz2 with rfl | rfl <;> decide
theorem z01_b {z : Nat} (hz : z ≤ 1) : nI z = 0 ↔ (z == 1) = false := by
  have hz2 : z = 0 ∨ z = 1 := by omega
  rcases hz2 with rfl | rfl <;> decide
theorem c_holdN {X : Ev} {M : Hp} {g : Nat} {wr : Int32} {bf sf kf : Nat → Int64} (hg : M[g]? = some (.inr (3, [.ref (g + 1), .ref (g + 3), .ref (g + 5), .int (wr)]))) (hB : M[g + 1]? = some (.inr (4, [.ref (g + 2)]))) (hb : M[g + 2]? = some (.inl (1, 34, .inr (.inl (bf))))) (hS : M[g + 3]? = some (.inr (4, [.ref (g + 4)]))) (hs : M[g + 4]? = some (.inl (1, 34, .inr (.inl (sf))))) (hK : M[g + 5]? = some (.inr (4, [.ref (g + 6)]))) (hk : M[g + 6]? = some (.inl (1, 34, .inr (.inl (kf))))) {k : Nat} (hk2 : k < 2176) : Cl X 1 jX4_hold [.ref (g), .int (nI k), .int (-1)] M none (M.set (g + 4) (.inl (1, 34, .inr (.inl (rset sf k false))))) := by
  refine Cl.of (ls := [some (.ref (g)), some (.int (nI k)), some (.int (-1))]) (by decide) rfl (Nat.le_of_ble_eq_true rfl) ?_
  refine x_iload_n dX4_hold_0 rfl rfl ?_
  refine x_iconst (y := -1) dX4_hold_1 rfl ?_
  refine x_icmp_ne (tgt := 17) dX4_hold_2 (by decide) (fun h => False.elim (h rfl)) (fun _ => ?_)
  refine x_aload_n dX4_hold_5 rfl rfl ?_
  refine x_getf (ci := 3) (kf := 1) dX4_hold_6 rfl uX4 (by decide) fl_RX4_18 hg rfl ?_
  refine x_iload_n dX4_hold_9 rfl rfl ?_
  refine x_iconst (y := nI 0) dX4_hold_10 rfl ?_
  refine x_callV (ci := 4) (as := [.int (nI k), .int (nI 0)]) dX4_hold_11 mk_X5_set in_X5_set se_X5_set ml_RX4_49 rfl hS (by decide) rfl rfl (Nat.le_of_ble_eq_true rfl) (c_set hS hs hk2 (b0 := false) (by decide)) ?_
  refine x_goto (tgt := 35) dX4_hold_14 (by decide) ?_
  exact x_ret dX4_hold_35 rfl
theorem c_holdV {X : Ev} {M : Hp} {g : Nat} {wr : Int32} {bf sf kf : Nat → Int64} (hg : M[g]? = some (.inr (3, [.ref (g + 1), .ref (g + 3), .ref (g + 5), .int (wr)]))) (hB : M[g + 1]? = some (.inr (4, [.ref (g + 2)]))) (hb : M[g + 2]? = some (.inl (1, 34, .inr (.inl (bf))))) (hS : M[g + 3]? = some (.inr (4, [.ref (g + 4)]))) (hs : M[g + 4]? = some (.inl (1, 34, .inr (.inl (sf))))) (hK : M[g + 5]? = some (.inr (4, [.ref (g + 6)]))) (hk : M[g + 6]? = some (.inl (1, 34, .inr (.inl (kf))))) {k : Nat} (hk2 : k < 2176) {z : Nat} (hz : z ≤ 1) : Cl X 1 jX4_hold [.ref (g), .int (nI k), .int (nI z)] M none ((M.set (g + 4) (.inl (1, 34, .inr (.inl (rset sf k true))))).set (g + 2) (.inl (1, 34, .inr (.inl (rset bf k (z == 1)))))) := by
  refine Cl.of (ls := [some (.ref (g)), some (.int (nI k)), some (.int (nI z))]) (by decide) rfl (Nat.le_of_ble_eq_true rfl) ?_
  refine x_iload_n dX4_hold_0 rfl rfl ?_
  refine x_iconst (y := -1) dX4_hold_1 rfl ?_
  refine x_icmp_ne (tgt := 17) dX4_hold_2 (by decide) (fun _ => ?_) (fun h => False.elim (absurd h (z01_ne hz)))
  refine x_aload_n dX4_hold_17 rfl rfl ?_
  refine x_getf (ci := 3) (kf := 1) dX4_hold_18 rfl uX4 (by decide) fl_RX4_18 hg rfl ?_
  refine x_iload_n dX4_hold_21 rfl rfl ?_
  refine x_iconst (y := nI 1) dX4_hold_22 rfl ?_
  refine x_callV (ci := 4) (as := [.int (nI k), .int (nI 1)]) dX4_hold_23 mk_X5_set in_X5_set se_X5_set ml_RX4_49 rfl hS (by decide) rfl rfl (Nat.le_of_ble_eq_true rfl) (c_set hS hs hk2 (b0 := true) (by decide)) ?_
  refine x_aload_n dX4_hold_26 rfl rfl ?_
  refine x_getf (ci := 3) (kf := 0) dX4_hold_27 rfl uX4 (by decide) fl_RX4_12 (gn hg (by omega)) rfl ?_
  refine x_iload_n dX4_hold_30 rfl rfl ?_
  refine x_iload_n dX4_hold_31 rfl rfl ?_
  refine x_callV (ci := 4) (as := [.int (nI k), .int (nI z)]) dX4_hold_32 mk_X5_set in_X5_set se_X5_set ml_RX4_49 rfl (gn hB (by omega)) (by decide) rfl rfl (Nat.le_of_ble_eq_true rfl) (c_set (gn hB (by omega)) (gn hb (by omega)) hk2 (b0 := z == 1) (z01_b hz)) ?_
  exact x_ret dX4_hold_35 rfl
end
section
/-! CODE: the register -/
def rgb (hi lo : Int64) (q : Nat) : Bool := if q < 64 then (uN hi).testBit (63 - q) else (uN lo).testBit (127 - q)
theorem nI_127 {q : Nat} (h : q ≤ 127) : nI 127 - nI q = nI (127 - q) := pk_sub h
theorem nI_63q {q : Nat} (h : q ≤ 63) : nI 63 - nI q = nI (63 - q) := pk_sub h
theorem c_registerAt {X : Ev} {M : Hp} {t d r n : Nat} {hi lo : Int64} (ho : M[5]? = some (.inr (0, [.ref (1), .ref (6), .ref (7), .ref (8), .ref (9), .ref (10), .int (nI t), .int (nI d), .int (nI r), .int (nI n), .long (hi), .long (lo)]))) {q : Nat} (hq : q < 128) : Cl X 0 jX0_registerAt [.ref (5), .int (nI q)] M (some (.int (nI (rgb hi lo q).toNat))) M := by
  refine Cl.of (ls := [some (.ref (5)), some (.int (nI q))]) (by decide) rfl (Nat.le_of_ble_eq_true rfl) ?_
  refine x_iload_n dX0_registerAt_0 rfl rfl ?_
  refine x_bipush (y := nI 64) dX0_registerAt_1 rfl ?_
  refine x_icmp_ge (tgt := 18) dX0_registerAt_3 (by decide) (fun h3 => ?_) (fun h3 => ?_)
  · refine x_aload_n dX0_registerAt_18 rfl rfl ?_
    refine x_getf (ci := 0) (kf := 11) dX0_registerAt_19 rfl uX0 (by decide) fl_RX0_95 ho rfl ?_
    refine x_bipush (y := nI 127) dX0_registerAt_22 rfl ?_
    refine x_iload_n dX0_registerAt_24 rfl rfl ?_
    refine x_isub dX0_registerAt_25 ?_
    refine x_casti (y := nI (127 - q)) (nI_127 (by omega)) ?_
    refine x_lushr dX0_registerAt_26 ?_
    refine x_l2i dX0_registerAt_27 ?_
    refine x_iconst (y := nI 1) dX0_registerAt_28 rfl ?_
    refine x_iand dX0_registerAt_29 ?_
    exact x_ireturn_eq dX0_registerAt_30 rfl (by rw [l_bit _ (by have hz := (nI_leI (by decide) (by omega)).mp h3; omega)]; unfold rgb; rw [if_neg (by have hz := (nI_leI (by decide) (by omega)).mp h3; omega)])
  · refine x_aload_n dX0_registerAt_6 rfl rfl ?_
    refine x_getf (ci := 0) (kf := 10) dX0_registerAt_7 rfl uX0 (by decide) fl_RX0_91 ho rfl ?_
    refine x_bipush (y := nI 63) dX0_registerAt_10 rfl ?_
    refine x_iload_n dX0_registerAt_12 rfl rfl ?_
    refine x_isub dX0_registerAt_13 ?_
    refine x_casti (y := nI (63 - q)) (nI_63q (by have hz := Nat.lt_of_not_le (fun z : 64 ≤ q => h3 (nI_le z (by omega))); omega)) ?_
    refine x_lushr dX0_registerAt_14 ?_
    refine x_goto (tgt := 27) dX0_registerAt_15 (by decide) ?_
    refine x_l2i dX0_registerAt_27 ?_
    refine x_iconst (y := nI 1) dX0_registerAt_28 rfl ?_
    refine x_iand dX0_registerAt_29 ?_
    exact x_ireturn_eq dX0_registerAt_30 rfl (by rw [l_bit _ (by omega)]; unfold rgb; rw [if_pos (Nat.lt_of_not_le (fun z : 64 ≤ q => h3 (nI_le z (by omega))))])
/-- a byte of data goes into the register -/
def lvs (hi : Int64) (b : Nat) : Nat := (uN hi / 2 ^ 56) ^^^ 255 ^^^ b
def stH (hs : Nat → Int64) (hi lo : Int64) (b : Nat) : Int64 := ((hi <<< ((nI 8).toInt64 &&& 63)) ||| ((lo.toUInt64 >>> ((nI 56).toInt64.toUInt64 &&& Int64.toUInt64 63)).toInt64)) ^^^ hs (lvs hi b)
def stL (ls : Nat → Int64) (hi lo : Int64) (b : Nat) : Int64 := (lo <<< ((nI 8).toInt64 &&& 63)) ^^^ ls (lvs hi b)
def tkd (hs ls f : Nat → Int64) : Nat → Int64 × Int64
  | 0 => (0, 0)
  | i + 1 => (stH hs (tkd hs ls f i).1 (tkd hs ls f i).2 (rby f i), stL ls (tkd hs ls f i).1 (tkd hs ls f i).2 (rby f i))
theorem rby_lt (f : Nat → Int64) (i : Nat) : rby f i < 256 := Nat.mod_lt _ (by decide)
theorem lvs_lt (hi : Int64) {b : Nat} (hb : b < 256) : lvs hi b < 256 := by
  have h := uN_lt hi
  exact Nat.xor_lt_two_pow (n := 8) (Nat.xor_lt_two_pow (n := 8) (by omega) (by decide)) hb
theorem lv_i (hi : Int64) : ((hi.toUInt64 >>> ((nI 56).toInt64.toUInt64 &&& Int64.toUInt64 63)).toInt64).toInt32 = nI (uN hi / 2 ^ 56) := by
  rw [uN_i32, uN_sk hi (by decide)]
theorem lp_takeData_fw {X : Ev} {d' : Nat} {M0 M M' : Hp} {v : Option Value} {pc : Nat} {a b i j : Value} (k : G X d' jX0_takeData M0 pc [some a, some b, some i, none] [] M v M') : G X d' jX0_takeData M0 pc [some a, some b, some i, some j] [] M v M' := x_fewer (fun q w h => by match q, h with | 0, h => exact h | 1, h => exact h | 2, h => exact h | 3, h => cases h | q + 4, h => cases h) k
theorem lp_takeData {X : Ev} {M0 M M' : Hp} {v : Option Value} {t d r n : Nat} {hi lo : Int64} (ho : M[5]? = some (.inr (0, [.ref (1), .ref (6), .ref (7), .ref (8), .ref (9), .ref (10), .int (nI t), .int (nI d), .int (nI r), .int (nI n), .long (hi), .long (lo)]))) {hs ls : Nat → Int64} (hh : M[7]? = some (.inl (1, 256, .inr (.inl (hs))))) (hl : M[8]? = some (.inl (1, 256, .inr (.inl (ls))))) {u : Nat} {uf : Nat → Int64} (hU : M[u]? = some (.inr (4, [.ref (u + 1)]))) (hu : M[u + 1]? = some (.inl (1, 34, .inr (.inl (uf))))) (hu5 : 11 < u) (hd : d ≤ 256) (k : G X 1 jX0_takeData M0 89 [some (.ref (5)), some (.ref (u)), some (.int (nI (d))), none] [] (M.set (5) (.inr (0, [.ref (1), .ref (6), .ref (7), .ref (8), .ref (9), .ref (10), .int (nI t), .int (nI d), .int (nI r), .int (nI n), .long ((tkd hs ls uf (d)).1), .long ((tkd hs ls uf (d)).2)]))) v M') : ∀ (zz i : Nat), i + zz = d → G X 1 jX0_takeData M0 12 [some (.ref (5)), some (.ref (u)), some (.int (nI (i))), none] [] (M.set (5) (.inr (0, [.ref (1), .ref (6), .ref (7), .ref (8), .ref (9), .ref (10), .int (nI t), .int (nI d), .int (nI r), .int (nI n), .long ((tkd hs ls uf (i)).1), .long ((tkd hs ls uf (i)).2)]))) v M' := by
  intro zz
  induction zz with
  | zero =>
    intro i hi
    have hi : i = d := by omega
    subst hi
    refine x_iload_n dX0_takeData_12 rfl rfl ?_
    refine x_aload_n dX0_takeData_13 rfl rfl ?_
    refine x_getf (ci := 0) (kf := 7) dX0_takeData_14 rfl uX0 (by decide) fl_RX0_40 (gs ho) rfl ?_
    refine x_icmp_ge (tgt := 89) dX0_takeData_17 (by decide) (fun _ => ?_) (fun h => False.elim (h (nI_le (Nat.le_refl _) (by omega))))
    exact k
  | succ zz ih =>
    intro i hi
    refine x_iload_n dX0_takeData_12 rfl rfl ?_
    refine x_aload_n dX0_takeData_13 rfl rfl ?_
    refine x_getf (ci := 0) (kf := 7) dX0_takeData_14 rfl uX0 (by decide) fl_RX0_40 (gs ho) rfl ?_
    refine x_icmp_ge (tgt := 89) dX0_takeData_17 (by decide) (fun h => False.elim (nI_ge (by omega : i < d) (by omega) h)) (fun _ => ?_)
    refine x_aload_n dX0_takeData_20 rfl rfl ?_
    refine x_getf (ci := 0) (kf := 10) dX0_takeData_21 rfl uX0 (by decide) fl_RX0_91 (gs ho) rfl ?_
    refine x_bipush (y := nI 56) dX0_takeData_24 rfl ?_
    refine x_lushr dX0_takeData_26 ?_
    refine x_l2i dX0_takeData_27 ?_
    refine x_casti (y := nI (uN ((tkd hs ls uf (i)).1) / 2 ^ 56)) (lv_i _) ?_
    refine x_sipush (y := nI 255) dX0_takeData_28 rfl ?_
    refine x_ixor dX0_takeData_31 ?_
    refine x_casti (y := nI ((uN ((tkd hs ls uf (i)).1) / 2 ^ 56) ^^^ 255)) (nI_xor _ _) ?_
    refine x_aload_n dX0_takeData_32 rfl rfl ?_
    refine x_iload_n dX0_takeData_33 rfl rfl ?_
    refine x_callV (ci := 4) (as := [.int (nI (i))]) dX0_takeData_34 mk_X5_byteAt in_X5_byteAt se_X5_byteAt ml_RX0_98 rfl (gn hU (by omega)) (by decide) rfl rfl (Nat.le_of_ble_eq_true rfl) (c_byteAt (gn hU (by omega)) (gn hu (by omega)) (by omega)) ?_
    refine x_ixor dX0_takeData_37 ?_
    refine x_casti (y := nI (lvs ((tkd hs ls uf (i)).1) (rby uf i))) (nI_xor _ _) ?_
    refine x_istore_n (ls' := [some (.ref (5)), some (.ref (u)), some (.int (nI (i))), some (.int (nI (lvs ((tkd hs ls uf (i)).1) (rby uf i))))]) dX0_takeData_38 rfl (by decide) rfl rfl ?_
    refine x_aload_n dX0_takeData_39 rfl rfl ?_
    refine x_aload_n dX0_takeData_40 rfl rfl ?_
    refine x_getf (ci := 0) (kf := 10) dX0_takeData_41 rfl uX0 (by decide) fl_RX0_91 (gs ho) rfl ?_
    refine x_bipush (y := nI 8) dX0_takeData_44 rfl ?_
    refine x_lshl dX0_takeData_46 ?_
    refine x_aload_n dX0_takeData_47 rfl rfl ?_
    refine x_getf (ci := 0) (kf := 11) dX0_takeData_48 rfl uX0 (by decide) fl_RX0_95 (gs ho) rfl ?_
    refine x_bipush (y := nI 56) dX0_takeData_51 rfl ?_
    refine x_lushr dX0_takeData_53 ?_
    refine x_lor dX0_takeData_54 ?_
    refine x_aload_n dX0_takeData_55 rfl rfl ?_
    refine x_getf (ci := 0) (kf := 2) dX0_takeData_56 rfl uX0 (by decide) fl_RX0_15 (gs ho) rfl ?_
    refine x_iload_n dX0_takeData_59 rfl rfl ?_
    refine x_lld (j := lvs ((tkd hs ls uf (i)).1) (rby uf i)) dX0_takeData_60 (gn hh (by decide)) rfl (lvs_lt _ (rby_lt _ _)) (by decide) ?_
    refine x_lxor dX0_takeData_61 ?_
    refine x_putf (ci := 0) (kf := 10) (ty0 := tyX0) (M1 := (M.set (5) (.inr (0, [.ref (1), .ref (6), .ref (7), .ref (8), .ref (9), .ref (10), .int (nI t), .int (nI d), .int (nI r), .int (nI n), .long (((((tkd hs ls uf (i)).1) <<< ((nI 8).toInt64 &&& 63)) ||| ((((tkd hs ls uf (i)).2).toUInt64 >>> ((nI 56).toInt64.toUInt64 &&& Int64.toUInt64 63)).toInt64)) ^^^ (hs (lvs ((tkd hs ls uf (i)).1) (rby uf i)))), .long ((tkd hs ls uf (i)).2)])))) dX0_takeData_62 rfl uX0 tyX0_ok nmX0 (by decide) fl_RX0_91 rfl rfl rfl rfl (gs ho) (Nat.le_of_ble_eq_true rfl) (ss0) ?_
    refine x_aload_n dX0_takeData_65 rfl rfl ?_
    refine x_aload_n dX0_takeData_66 rfl rfl ?_
    refine x_getf (ci := 0) (kf := 11) dX0_takeData_67 rfl uX0 (by decide) fl_RX0_95 (gs ho) rfl ?_
    refine x_bipush (y := nI 8) dX0_takeData_70 rfl ?_
    refine x_lshl dX0_takeData_72 ?_
    refine x_aload_n dX0_takeData_73 rfl rfl ?_
    refine x_getf (ci := 0) (kf := 3) dX0_takeData_74 rfl uX0 (by decide) fl_RX0_19 (gs ho) rfl ?_
    refine x_iload_n dX0_takeData_77 rfl rfl ?_
    refine x_lld (j := lvs ((tkd hs ls uf (i)).1) (rby uf i)) dX0_takeData_78 (gn hl (by decide)) rfl (lvs_lt _ (rby_lt _ _)) (by decide) ?_
    refine x_lxor dX0_takeData_79 ?_
    refine x_putf (ci := 0) (kf := 11) (ty0 := tyX0) (M1 := (M.set (5) (.inr (0, [.ref (1), .ref (6), .ref (7), .ref (8), .ref (9), .ref (10), .int (nI t), .int (nI d), .int (nI r), .int (nI n), .long (((((tkd hs ls uf (i)).1) <<< ((nI 8).toInt64 &&& 63)) ||| ((((tkd hs ls uf (i)).2).toUInt64 >>> ((nI 56).toInt64.toUInt64 &&& Int64.toUInt64 63)).toInt64)) ^^^ (hs (lvs ((tkd hs ls uf (i)).1) (rby uf i)))), .long ((((tkd hs ls uf (i)).2) <<< ((nI 8).toInt64 &&& 63)) ^^^ (ls (lvs ((tkd hs ls uf (i)).1) (rby uf i))))])))) dX0_takeData_80 rfl uX0 tyX0_ok nmX0 (by decide) fl_RX0_95 rfl rfl rfl rfl (gs ho) (Nat.le_of_ble_eq_true rfl) (ss0) ?_
    refine x_iinc (y := nI ((i) + 1)) (ls' := [some (.ref (5)), some (.ref (u)), some (.int (nI ((i) + 1))), some (.int (nI (lvs ((tkd hs ls uf (i)).1) (rby uf i))))]) dX0_takeData_83 (by decide) rfl rfl (ii_add _ 1) rfl ?_
    refine x_goto (tgt := 12) dX0_takeData_86 (by decide) ?_
    refine lp_takeData_fw ?_
    exact ih (i + 1) (by omega)
theorem c_takeData {X : Ev} {M : Hp} {t d r n : Nat} {hi lo : Int64} (ho : M[5]? = some (.inr (0, [.ref (1), .ref (6), .ref (7), .ref (8), .ref (9), .ref (10), .int (nI t), .int (nI d), .int (nI r), .int (nI n), .long (hi), .long (lo)]))) {hs ls : Nat → Int64} (hh : M[7]? = some (.inl (1, 256, .inr (.inl (hs))))) (hl : M[8]? = some (.inl (1, 256, .inr (.inl (ls))))) {u : Nat} {uf : Nat → Int64} (hU : M[u]? = some (.inr (4, [.ref (u + 1)]))) (hu : M[u + 1]? = some (.inl (1, 34, .inr (.inl (uf))))) (hu5 : 11 < u) (hd : d ≤ 256) : Cl X 1 jX0_takeData [.ref (5), .ref (u)] M none (M.set 5 (.inr (0, [.ref (1), .ref (6), .ref (7), .ref (8), .ref (9), .ref (10), .int (nI t), .int (nI d), .int (nI r), .int (nI n), .long ((tkd hs ls uf (d)).1), .long ((tkd hs ls uf (d)).2)]))) := by
  refine Cl.of (ls := [some (.ref (5)), some (.ref (u)), none, none]) (by decide) rfl (Nat.le_of_ble_eq_true rfl) ?_
  refine x_aload_n dX0_takeData_0 rfl rfl ?_
  refine x_lconst (y := 0) dX0_takeData_1 rfl ?_
  refine x_putf (ci := 0) (kf := 10) (ty0 := tyX0) (M1 := (M.set (5) (.inr (0, [.ref (1), .ref (6), .ref (7), .ref (8), .ref (9), .ref (10), .int (nI t), .int (nI d), .int (nI r), .int (nI n), .long (0), .long (lo)])))) dX0_takeData_2 rfl uX0 tyX0_ok nmX0 (by decide) fl_RX0_91 rfl rfl rfl rfl ho (Nat.le_of_ble_eq_true rfl) rfl ?_
  refine x_aload_n dX0_takeData_5 rfl rfl ?_
  refine x_lconst (y := 0) dX0_takeData_6 rfl ?_
  refine x_putf (ci := 0) (kf := 11) (ty0 := tyX0) (M1 := (M.set (5) (.inr (0, [.ref (1), .ref (6), .ref (7), .ref (8), .ref (9), .ref (10), .int (nI t), .int (nI d), .int (nI r), .int (nI n), .long (0), .long (0)])))) dX0_takeData_7 rfl uX0 tyX0_ok nmX0 (by decide) fl_RX0_95 rfl rfl rfl rfl (gs ho) (Nat.le_of_ble_eq_true rfl) (ss0) ?_
  refine x_iconst (y := nI 0) dX0_takeData_10 rfl ?_
  refine x_istore_n (ls' := [some (.ref (5)), some (.ref (u)), some (.int (nI 0)), none]) dX0_takeData_11 rfl (by decide) rfl rfl ?_
  exact lp_takeData ho hh hl hU hu hu5 hd (x_ret dX0_takeData_89 rfl) d 0 (by omega)
def cmp (f : Nat → Int64) (hi lo : Int64) (d : Nat) : Nat → (Nat → Int64)
  | 0 => f
  | q + 1 => rset (cmp f hi lo d q) (8 * d + q) (!(rgb hi lo q))
theorem lp_complete {X : Ev} {M0 M M' : Hp} {v : Option Value} {t d r n : Nat} {hi lo : Int64} (ho : M[5]? = some (.inr (0, [.ref (1), .ref (6), .ref (7), .ref (8), .ref (9), .ref (10), .int (nI t), .int (nI d), .int (nI r), .int (nI n), .long (hi), .long (lo)]))) {hs ls : Nat → Int64} (hh : M[7]? = some (.inl (1, 256, .inr (.inl (hs))))) (hl : M[8]? = some (.inl (1, 256, .inr (.inl (ls))))) {u : Nat} {uf : Nat → Int64} (hU : M[u]? = some (.inr (4, [.ref (u + 1)]))) (hu : M[u + 1]? = some (.inl (1, 34, .inr (.inl (uf))))) (hu5 : 11 < u) (hd : d ≤ 256) (hr : r ≤ 104) (k : G X 2 jX0_complete M0 41 [some (.ref (5)), some (.ref (u)), some (.int (nI (r)))] [] ((M.set (5) (.inr (0, [.ref (1), .ref (6), .ref (7), .ref (8), .ref (9), .ref (10), .int (nI t), .int (nI d), .int (nI r), .int (nI n), .long ((tkd hs ls uf (d)).1), .long ((tkd hs ls uf (d)).2)]))).set (u + 1) (.inl (1, 34, .inr (.inl (cmp uf (tkd hs ls uf d).1 (tkd hs ls uf d).2 d (r)))))) v M') : ∀ (zz i : Nat), i + zz = r → G X 2 jX0_complete M0 7 [some (.ref (5)), some (.ref (u)), some (.int (nI (i)))] [] ((M.set (5) (.inr (0, [.ref (1), .ref (6), .ref (7), .ref (8), .ref (9), .ref (10), .int (nI t), .int (nI d), .int (nI r), .int (nI n), .long ((tkd hs ls uf (d)).1), .long ((tkd hs ls uf (d)).2)]))).set (u + 1) (.inl (1, 34, .inr (.inl (cmp uf (tkd hs ls uf d).1 (tkd hs ls uf d).2 d (i)))))) v M' := by
  intro zz
  induction zz with
  | zero =>
    intro i hi
    have hi : i = r := by omega
    subst hi
    refine x_iload_n dX0_complete_7 rfl rfl ?_
    refine x_aload_n dX0_complete_8 rfl rfl ?_
    refine x_getf (ci := 0) (kf := 8) dX0_complete_9 rfl uX0 (by decide) fl_RX0_46 (gn (gs ho) (by omega)) rfl ?_
    refine x_icmp_ge (tgt := 41) dX0_complete_12 (by decide) (fun _ => ?_) (fun h => False.elim (h (nI_le (Nat.le_refl _) (by omega))))
    exact k
  | succ zz ih =>
    intro i hi
    refine x_iload_n dX0_complete_7 rfl rfl ?_
    refine x_aload_n dX0_complete_8 rfl rfl ?_
    refine x_getf (ci := 0) (kf := 8) dX0_complete_9 rfl uX0 (by decide) fl_RX0_46 (gn (gs ho) (by omega)) rfl ?_
    refine x_icmp_ge (tgt := 41) dX0_complete_12 (by decide) (fun h => False.elim (nI_ge (by omega : i < r) (by omega) h)) (fun _ => ?_)
    refine x_aload_n dX0_complete_15 rfl rfl ?_
    refine x_bipush (y := nI 8) dX0_complete_16 rfl ?_
    refine x_aload_n dX0_complete_18 rfl rfl ?_
    refine x_getf (ci := 0) (kf := 7) dX0_complete_19 rfl uX0 (by decide) fl_RX0_40 (gn (gs ho) (by omega)) rfl ?_
    refine x_imul dX0_complete_22 ?_
    refine x_casti (y := nI (8 * d)) (pk_mul _ _) ?_
    refine x_iload_n dX0_complete_23 rfl rfl ?_
    refine x_iadd dX0_complete_24 ?_
    refine x_casti (y := nI (8 * d + i)) (nI_add _ _) ?_
    refine x_iconst (y := nI 1) dX0_complete_25 rfl ?_
    refine x_aload_n dX0_complete_26 rfl rfl ?_
    refine x_iload_n dX0_complete_27 rfl rfl ?_
    refine x_callV (ci := 0) (as := [.int (nI (i))]) dX0_complete_28 mk_X0_registerAt in_X0_registerAt se_X0_registerAt ml_RX0_105 rfl (gn (gs ho) (by omega)) (by decide) rfl rfl (Nat.le_of_ble_eq_true rfl) (c_registerAt (gn (gs ho) (by omega)) (by omega)) ?_
    refine x_isub dX0_complete_31 ?_
    refine x_casti (y := nI (!(rgb (tkd hs ls uf d).1 (tkd hs ls uf d).2 i)).toNat) bz ?_
    refine x_callV (ci := 4) (as := [.int (nI (8 * d + i)), .int (nI (!(rgb (tkd hs ls uf d).1 (tkd hs ls uf d).2 i)).toNat)]) dX0_complete_32 mk_X5_set in_X5_set se_X5_set ml_RX0_108 rfl (gn (gn hU (by omega)) (by omega)) (by decide) rfl rfl (Nat.le_of_ble_eq_true rfl) (c_set (gn (gn hU (by omega)) (by omega)) (gs (gn hu (by omega))) (by omega) (b0 := !(rgb (tkd hs ls uf d).1 (tkd hs ls uf d).2 i)) bz0) ?_
    refine G.hp (ss0) ?_
    refine x_iinc (y := nI ((i) + 1)) (ls' := [some (.ref (5)), some (.ref (u)), some (.int (nI ((i) + 1)))]) dX0_complete_35 (by decide) rfl rfl (ii_add _ 1) rfl ?_
    refine x_goto (tgt := 7) dX0_complete_38 (by decide) ?_
    exact ih (i + 1) (by omega)
theorem c_complete {X : Ev} {M : Hp} {t d r n : Nat} {hi lo : Int64} (ho : M[5]? = some (.inr (0, [.ref (1), .ref (6), .ref (7), .ref (8), .ref (9), .ref (10), .int (nI t), .int (nI d), .int (nI r), .int (nI n), .long (hi), .long (lo)]))) {hs ls : Nat → Int64} (hh : M[7]? = some (.inl (1, 256, .inr (.inl (hs))))) (hl : M[8]? = some (.inl (1, 256, .inr (.inl (ls))))) {u : Nat} {uf : Nat → Int64} (hU : M[u]? = some (.inr (4, [.ref (u + 1)]))) (hu : M[u + 1]? = some (.inl (1, 34, .inr (.inl (uf))))) (hu5 : 11 < u) (hd : d ≤ 256) (hr : r ≤ 104) : Cl X 2 jX0_complete [.ref (5), .ref (u)] M none ((M.set 5 (.inr (0, [.ref (1), .ref (6), .ref (7), .ref (8), .ref (9), .ref (10), .int (nI t), .int (nI d), .int (nI r), .int (nI n), .long ((tkd hs ls uf (d)).1), .long ((tkd hs ls uf (d)).2)]))).set (u + 1) (.inl (1, 34, .inr (.inl (cmp uf (tkd hs ls uf d).1 (tkd hs ls uf d).2 d r))))) := by
  refine Cl.of (ls := [some (.ref (5)), some (.ref (u)), none]) (by decide) rfl (Nat.le_of_ble_eq_true rfl) ?_
  refine x_aload_n dX0_complete_0 rfl rfl ?_
  refine x_aload_n dX0_complete_1 rfl rfl ?_
  refine x_callV (ci := 0) (as := [.ref (u)]) dX0_complete_2 mk_X0_takeData in_X0_takeData se_X0_takeData ml_RX0_101 rfl ho (by decide) rfl rfl (Nat.le_of_ble_eq_true rfl) (c_takeData ho hh hl hU hu hu5 hd) ?_
  refine x_iconst (y := nI 0) dX0_complete_5 rfl ?_
  refine x_istore_n (ls' := [some (.ref (5)), some (.ref (u)), some (.int (nI 0))]) dX0_complete_6 rfl (by decide) rfl rfl ?_
  refine G.hp (set_id (gn hu (by omega)) rfl) (lp_complete ho hh hl hU hu hu5 hd hr (x_ret dX0_complete_41 rfl) r 0 (by omega))
end
section
/-! CODE: a word divided, the rest's values -/
/-- what is left of bit q of the tail -/
def lft (f : Nat → Int64) (hi lo : Int64) (d q : Nat) : Bool := (rgb hi lo q ^^ true) ^^ rb f (8 * d + q)
def rsu (rs : Nat → Int32) (r : Nat) (lf : Nat → Bool) : Nat → (Nat → Int32)
  | 0 => rs
  | q + 1 => upd (rsu rs r lf q) (r - 1 - q) (nI (lf q).toNat)
def nnl (lf : Nat → Bool) : Nat → Bool
  | 0 => true
  | q + 1 => nnl lf q && !(lf q)
theorem nn_1 {a b : Bool} (h : ¬ nI a.toNat = 0) (h2 : nI b.toNat = 0) : nI 1 = nI (a && !b).toNat := by
  match a, b, h, h2 with
  | false, _, h, _ => exact absurd rfl h
  | true, true, _, h2 => exact absurd h2 (by decide)
  | true, false, _, _ => rfl
theorem nn_0 {a b : Bool} (h : nI a.toNat = 0) : nI 0 = nI (a && !b).toNat := by
  match a, h with
  | false, _ => rfl
  | true, h => exact absurd h (by decide)
theorem nn_2 {a b : Bool} (h2 : ¬ nI b.toNat = 0) : nI 0 = nI (a && !b).toNat := by
  match b, h2 with
  | false, h => exact absurd rfl h
  | true, _ => cases a <;> rfl
theorem bn_ite {b : Bool} : nI b.toNat = if b then 1 else 0 := by cases b <;> rfl
theorem bx1 {a : Bool} : nI a.toNat ^^^ nI 1 = nI (a ^^ true).toNat := by cases a <;> rfl
theorem bx2 {a b : Bool} : nI a.toNat ^^^ nI b.toNat = nI (a ^^ b).toNat := by cases a <;> cases b <;> rfl
theorem lp_divide_fw {X : Ev} {d' : Nat} {M0 M M' : Hp} {v : Option Value} {pc : Nat} {a b i c j : Value} (k : G X d' jX0_divide M0 pc [some a, some b, some i, some c, none] [] M v M') : G X d' jX0_divide M0 pc [some a, some b, some i, some c, some j] [] M v M' := x_fewer (fun q w h => by match q, h with | 0, h => exact h | 1, h => exact h | 2, h => exact h | 3, h => exact h | 4, h => cases h | q + 5, h => cases h) k
theorem lp_divide {X : Ev} {M0 M M' : Hp} {v : Option Value} {t d r n : Nat} {hi lo : Int64} (ho : M[5]? = some (.inr (0, [.ref (1), .ref (6), .ref (7), .ref (8), .ref (9), .ref (10), .int (nI t), .int (nI d), .int (nI r), .int (nI n), .long (hi), .long (lo)]))) {hs ls : Nat → Int64} (hh : M[7]? = some (.inl (1, 256, .inr (.inl (hs))))) (hl : M[8]? = some (.inl (1, 256, .inr (.inl (ls))))) {u : Nat} {uf : Nat → Int64} (hU : M[u]? = some (.inr (4, [.ref (u + 1)]))) (hu : M[u + 1]? = some (.inl (1, 34, .inr (.inl (uf))))) (hu5 : 11 < u) {rs : Nat → Int32} (hrs : M[9]? = some (.inl (0, 104, .inl (rs)))) (hd : d ≤ 256) (hr : r ≤ 104) (k : G X 2 jX0_divide M0 76 [some (.ref (5)), some (.ref (u)), some (.int (nI (nnl (lft uf (tkd hs ls uf d).1 (tkd hs ls uf d).2 d) (r)).toNat)), some (.int (nI (r))), none] [] ((M.set (5) (.inr (0, [.ref (1), .ref (6), .ref (7), .ref (8), .ref (9), .ref (10), .int (nI t), .int (nI d), .int (nI r), .int (nI n), .long ((tkd hs ls uf (d)).1), .long ((tkd hs ls uf (d)).2)]))).set (9) (.inl (0, 104, .inl (rsu rs r (lft uf (tkd hs ls uf d).1 (tkd hs ls uf d).2 d) (r))))) v M') : ∀ (zz i : Nat), i + zz = r → G X 2 jX0_divide M0 9 [some (.ref (5)), some (.ref (u)), some (.int (nI (nnl (lft uf (tkd hs ls uf d).1 (tkd hs ls uf d).2 d) (i)).toNat)), some (.int (nI (i))), none] [] ((M.set (5) (.inr (0, [.ref (1), .ref (6), .ref (7), .ref (8), .ref (9), .ref (10), .int (nI t), .int (nI d), .int (nI r), .int (nI n), .long ((tkd hs ls uf (d)).1), .long ((tkd hs ls uf (d)).2)]))).set (9) (.inl (0, 104, .inl (rsu rs r (lft uf (tkd hs ls uf d).1 (tkd hs ls uf d).2 d) (i))))) v M' := by
  intro zz
  induction zz with
  | zero =>
    intro i hi
    have hi : i = r := by omega
    subst hi
    refine x_iload_n dX0_divide_9 rfl rfl ?_
    refine x_aload_n dX0_divide_10 rfl rfl ?_
    refine x_getf (ci := 0) (kf := 8) dX0_divide_11 rfl uX0 (by decide) fl_RX0_46 (gn (gs ho) (by decide)) rfl ?_
    refine x_icmp_ge (tgt := 76) dX0_divide_14 (by decide) (fun _ => ?_) (fun h => False.elim (h (nI_le (Nat.le_refl _) (by omega))))
    exact k
  | succ zz ih =>
    intro i hi
    refine x_iload_n dX0_divide_9 rfl rfl ?_
    refine x_aload_n dX0_divide_10 rfl rfl ?_
    refine x_getf (ci := 0) (kf := 8) dX0_divide_11 rfl uX0 (by decide) fl_RX0_46 (gn (gs ho) (by decide)) rfl ?_
    refine x_icmp_ge (tgt := 76) dX0_divide_14 (by decide) (fun h => False.elim (nI_ge (by omega : i < r) (by omega) h)) (fun _ => ?_)
    refine x_aload_n dX0_divide_17 rfl rfl ?_
    refine x_iload_n dX0_divide_18 rfl rfl ?_
    refine x_callV (ci := 0) (as := [.int (nI (i))]) dX0_divide_19 mk_X0_registerAt in_X0_registerAt se_X0_registerAt ml_RX0_105 rfl (gn (gs ho) (by decide)) (by decide) rfl rfl (Nat.le_of_ble_eq_true rfl) (c_registerAt (gn (gs ho) (by decide)) (by omega)) ?_
    refine x_iconst (y := nI 1) dX0_divide_22 rfl ?_
    refine x_ixor dX0_divide_23 ?_
    refine x_casti (y := nI (rgb (tkd hs ls uf d).1 (tkd hs ls uf d).2 i ^^ true).toNat) bx1 ?_
    refine x_aload_n dX0_divide_24 rfl rfl ?_
    refine x_bipush (y := nI 8) dX0_divide_25 rfl ?_
    refine x_aload_n dX0_divide_27 rfl rfl ?_
    refine x_getf (ci := 0) (kf := 7) dX0_divide_28 rfl uX0 (by decide) fl_RX0_40 (gn (gs ho) (by decide)) rfl ?_
    refine x_imul dX0_divide_31 ?_
    refine x_casti (y := nI (8 * d)) (pk_mul _ _) ?_
    refine x_iload_n dX0_divide_32 rfl rfl ?_
    refine x_iadd dX0_divide_33 ?_
    refine x_casti (y := nI (8 * d + i)) (nI_add _ _) ?_
    refine x_callV (ci := 4) (as := [.int (nI (8 * d + i))]) dX0_divide_34 mk_X5_at in_X5_at se_X5_at ml_RX0_111 rfl (gn (gn hU (by omega)) (by omega)) (by decide) rfl rfl (Nat.le_of_ble_eq_true rfl) (c_at (gn (gn hU (by omega)) (by omega)) (gn (gn hu (by omega)) (by omega)) (by omega)) ?_
    refine x_ixor dX0_divide_37 ?_
    refine x_casti (y := nI ((lft uf (tkd hs ls uf d).1 (tkd hs ls uf d).2 d) i).toNat) bx2 ?_
    refine x_istore (ls' := [some (.ref (5)), some (.ref (u)), some (.int (nI (nnl (lft uf (tkd hs ls uf d).1 (tkd hs ls uf d).2 d) (i)).toNat)), some (.int (nI (i))), some (.int (nI ((lft uf (tkd hs ls uf d).1 (tkd hs ls uf d).2 d) i).toNat))]) dX0_divide_38 (by decide) rfl rfl ?_
    refine x_aload_n dX0_divide_40 rfl rfl ?_
    refine x_getf (ci := 0) (kf := 4) dX0_divide_41 rfl uX0 (by decide) fl_RX0_22 (gn (gs ho) (by decide)) rfl ?_
    refine x_aload_n dX0_divide_44 rfl rfl ?_
    refine x_getf (ci := 0) (kf := 8) dX0_divide_45 rfl uX0 (by decide) fl_RX0_46 (gn (gs ho) (by decide)) rfl ?_
    refine x_iconst (y := nI 1) dX0_divide_48 rfl ?_
    refine x_isub dX0_divide_49 ?_
    refine x_casti (y := nI (r - 1)) (pk_sub (by omega)) ?_
    refine x_iload_n dX0_divide_50 rfl rfl ?_
    refine x_isub dX0_divide_51 ?_
    refine x_casti (y := nI (r - 1 - i)) (pk_sub (by omega)) ?_
    refine x_iload dX0_divide_52 rfl ?_
    refine x_ist (j := r - 1 - i) (M1 := ((M.set (5) (.inr (0, [.ref (1), .ref (6), .ref (7), .ref (8), .ref (9), .ref (10), .int (nI t), .int (nI d), .int (nI r), .int (nI n), .long ((tkd hs ls uf (d)).1), .long ((tkd hs ls uf (d)).2)]))).set (9) (.inl (0, 104, .inl (rsu rs r (lft uf (tkd hs ls uf d).1 (tkd hs ls uf d).2 d) (i + 1)))))) dX0_divide_54 (gs (gn hrs (by decide))) rfl (by omega) (by decide) (by rw [show upd (rsu rs r (lft uf (tkd hs ls uf d).1 (tkd hs ls uf d).2 d) (i)) (r - 1 - i) (nI ((lft uf (tkd hs ls uf d).1 (tkd hs ls uf d).2 d) i).toNat) = (rsu rs r (lft uf (tkd hs ls uf d).1 (tkd hs ls uf d).2 d) (i + 1)) from rfl] <;> exact (ss0)) ?_
    refine x_iload_n dX0_divide_55 rfl rfl ?_
    refine x_if_eq (tgt := 68) dX0_divide_56 (by decide) (fun h56 => ?_) (fun h56 => ?_)
    · refine x_iconst (y := nI 0) dX0_divide_68 rfl ?_
      refine x_casti (y := nI (nnl (lft uf (tkd hs ls uf d).1 (tkd hs ls uf d).2 d) (i + 1)).toNat) (by first | exact nn_0 h56 | exact nn_2 h61) ?_
      refine x_istore_n (ls' := [some (.ref (5)), some (.ref (u)), some (.int (nI (nnl (lft uf (tkd hs ls uf d).1 (tkd hs ls uf d).2 d) (i + 1)).toNat)), some (.int (nI (i))), some (.int (nI ((lft uf (tkd hs ls uf d).1 (tkd hs ls uf d).2 d) i).toNat))]) dX0_divide_69 rfl (by decide) rfl rfl ?_
      refine x_iinc (y := nI ((i) + 1)) (ls' := [some (.ref (5)), some (.ref (u)), some (.int (nI (nnl (lft uf (tkd hs ls uf d).1 (tkd hs ls uf d).2 d) (i + 1)).toNat)), some (.int (nI ((i) + 1))), some (.int (nI ((lft uf (tkd hs ls uf d).1 (tkd hs ls uf d).2 d) i).toNat))]) dX0_divide_70 (by decide) rfl rfl (ii_add _ 1) rfl ?_
      refine x_goto (tgt := 9) dX0_divide_73 (by decide) ?_
      refine lp_divide_fw ?_
      exact ih (i + 1) (by omega)
    · refine x_iload dX0_divide_59 rfl ?_
      refine x_if_ne (tgt := 68) dX0_divide_61 (by decide) (fun h61 => ?_) (fun h61 => ?_)
      · refine x_iconst (y := nI 0) dX0_divide_68 rfl ?_
        refine x_casti (y := nI (nnl (lft uf (tkd hs ls uf d).1 (tkd hs ls uf d).2 d) (i + 1)).toNat) (by first | exact nn_0 h56 | exact nn_2 h61) ?_
        refine x_istore_n (ls' := [some (.ref (5)), some (.ref (u)), some (.int (nI (nnl (lft uf (tkd hs ls uf d).1 (tkd hs ls uf d).2 d) (i + 1)).toNat)), some (.int (nI (i))), some (.int (nI ((lft uf (tkd hs ls uf d).1 (tkd hs ls uf d).2 d) i).toNat))]) dX0_divide_69 rfl (by decide) rfl rfl ?_
        refine x_iinc (y := nI ((i) + 1)) (ls' := [some (.ref (5)), some (.ref (u)), some (.int (nI (nnl (lft uf (tkd hs ls uf d).1 (tkd hs ls uf d).2 d) (i + 1)).toNat)), some (.int (nI ((i) + 1))), some (.int (nI ((lft uf (tkd hs ls uf d).1 (tkd hs ls uf d).2 d) i).toNat))]) dX0_divide_70 (by decide) rfl rfl (ii_add _ 1) rfl ?_
        refine x_goto (tgt := 9) dX0_divide_73 (by decide) ?_
        refine lp_divide_fw ?_
        exact ih (i + 1) (by omega)
      · refine x_iconst (y := nI 1) dX0_divide_64 rfl ?_
        refine x_goto (tgt := 69) dX0_divide_65 (by decide) ?_
        refine x_casti (y := nI (nnl (lft uf (tkd hs ls uf d).1 (tkd hs ls uf d).2 d) (i + 1)).toNat) (nn_1 h56 h61) ?_
        refine x_istore_n (ls' := [some (.ref (5)), some (.ref (u)), some (.int (nI (nnl (lft uf (tkd hs ls uf d).1 (tkd hs ls uf d).2 d) (i + 1)).toNat)), some (.int (nI (i))), some (.int (nI ((lft uf (tkd hs ls uf d).1 (tkd hs ls uf d).2 d) i).toNat))]) dX0_divide_69 rfl (by decide) rfl rfl ?_
        refine x_iinc (y := nI ((i) + 1)) (ls' := [some (.ref (5)), some (.ref (u)), some (.int (nI (nnl (lft uf (tkd hs ls uf d).1 (tkd hs ls uf d).2 d) (i + 1)).toNat)), some (.int (nI ((i) + 1))), some (.int (nI ((lft uf (tkd hs ls uf d).1 (tkd hs ls uf d).2 d) i).toNat))]) dX0_divide_70 (by decide) rfl rfl (ii_add _ 1) rfl ?_
        refine x_goto (tgt := 9) dX0_divide_73 (by decide) ?_
        refine lp_divide_fw ?_
        exact ih (i + 1) (by omega)
theorem c_divide {X : Ev} {M : Hp} {t d r n : Nat} {hi lo : Int64} (ho : M[5]? = some (.inr (0, [.ref (1), .ref (6), .ref (7), .ref (8), .ref (9), .ref (10), .int (nI t), .int (nI d), .int (nI r), .int (nI n), .long (hi), .long (lo)]))) {hs ls : Nat → Int64} (hh : M[7]? = some (.inl (1, 256, .inr (.inl (hs))))) (hl : M[8]? = some (.inl (1, 256, .inr (.inl (ls))))) {u : Nat} {uf : Nat → Int64} (hU : M[u]? = some (.inr (4, [.ref (u + 1)]))) (hu : M[u + 1]? = some (.inl (1, 34, .inr (.inl (uf))))) (hu5 : 11 < u) {rs : Nat → Int32} (hrs : M[9]? = some (.inl (0, 104, .inl (rs)))) (hd : d ≤ 256) (hr : r ≤ 104) : Cl X 2 jX0_divide [.ref (5), .ref (u)] M (some (.int (if nnl (lft uf (tkd hs ls uf d).1 (tkd hs ls uf d).2 d) r then 1 else 0))) ((M.set 5 (.inr (0, [.ref (1), .ref (6), .ref (7), .ref (8), .ref (9), .ref (10), .int (nI t), .int (nI d), .int (nI r), .int (nI n), .long ((tkd hs ls uf (d)).1), .long ((tkd hs ls uf (d)).2)]))).set 9 (.inl (0, 104, .inl (rsu rs r (lft uf (tkd hs ls uf d).1 (tkd hs ls uf d).2 d) r)))) := by
  refine Cl.of (ls := [some (.ref (5)), some (.ref (u)), none, none, none]) (by decide) rfl (Nat.le_of_ble_eq_true rfl) ?_
  refine x_aload_n dX0_divide_0 rfl rfl ?_
  refine x_aload_n dX0_divide_1 rfl rfl ?_
  refine x_callV (ci := 0) (as := [.ref (u)]) dX0_divide_2 mk_X0_takeData in_X0_takeData se_X0_takeData ml_RX0_101 rfl ho (by decide) rfl rfl (Nat.le_of_ble_eq_true rfl) (c_takeData ho hh hl hU hu hu5 hd) ?_
  refine x_iconst (y := nI 1) dX0_divide_5 rfl ?_
  refine x_istore_n (ls' := [some (.ref (5)), some (.ref (u)), some (.int (nI 1)), none, none]) dX0_divide_6 rfl (by decide) rfl rfl ?_
  refine x_iconst (y := nI 0) dX0_divide_7 rfl ?_
  refine x_istore_n (ls' := [some (.ref (5)), some (.ref (u)), some (.int (nI 1)), some (.int (nI 0)), none]) dX0_divide_8 rfl (by decide) rfl rfl ?_
  refine G.hp (set_id (gn hrs (by decide)) rfl) (lp_divide ho hh hl hU hu hu5 hrs hd hr ?_ r 0 (by omega))
  refine x_iload_n dX0_divide_76 rfl rfl ?_
  exact x_zreturn_eq dX0_divide_77 rfl bn_ite
/-- the value at A^s of the polynomial with these bits -/
def rsum (m : Nat) (rq : Nat → Bool) (s : Nat) : Nat → Nat
  | 0 => 0
  | p + 1 => if rq p then rsum m rq s p ^^^ pwr m (p * s) else rsum m rq s p
theorem rsum_lt {m : Nat} (h3 : 3 ≤ m) (h13 : m ≤ 13) {rq : Nat → Bool} {s : Nat} : ∀ p, rsum m rq s p < 2 ^ m
  | 0 => Nat.two_pow_pos m
  | p + 1 => by
    unfold rsum
    split
    · exact xor_lt (rsum_lt h3 h13 p) (pwr_lt h3 h13 _)
    · exact rsum_lt h3 h13 p
theorem em_1 {p s N : Nat} (hN : 0 < N) (hs : s < N) (h : N ≤ p * s % N + s) : p * s % N + s - N = (p + 1) * s % N := by
  have h1 : p * s % N < N := Nat.mod_lt _ hN
  have e : (p + 1) * s % N = (p * s % N + s) % N := by rw [Nat.succ_mul, Nat.add_mod, Nat.mod_eq_of_lt hs]
  rw [e, Nat.mod_eq_sub_mod h]
  exact (Nat.mod_eq_of_lt (by omega)).symm
theorem em_2 {p s N : Nat} (hs : s < N) (h : p * s % N + s < N) : p * s % N + s = (p + 1) * s % N := by
  rw [Nat.succ_mul, Nat.add_mod, Nat.mod_eq_of_lt hs, Nat.mod_eq_of_lt h]
theorem rq_1 {b : Bool} (h : nI b.toNat = nI 1) : b = true := by cases b with | true => rfl | false => exact absurd h (by decide)
theorem rq_0 {b : Bool} (h : ¬ nI b.toNat = nI 1) : b = false := by cases b with | false => rfl | true => exact absurd rfl h
theorem lp_restAt {X : Ev} {M0 M M' : Hp} {v : Option Value} {t d r n : Nat} {hi lo : Int64} (ho : M[5]? = some (.inr (0, [.ref (1), .ref (6), .ref (7), .ref (8), .ref (9), .ref (10), .int (nI t), .int (nI d), .int (nI r), .int (nI n), .long (hi), .long (lo)]))) {m : Nat} {pw lg : Nat → Int32} (hf : M[1]? = some (.inr (1, [.ref (2), .ref (3), .ref (4), .int (nI m), .int (nI (2 ^ m - 1))]))) (hp : M[2]? = some (.inl (0, 8192, .inl (pw)))) (hF : FT pw lg m) {rs : Nat → Int32} {rq : Nat → Bool} (hrs : M[9]? = some (.inl (0, 104, .inl (rs)))) (hrq : ∀ j, j < r → rs j = nI (rq j).toNat) (hr : r ≤ 104) {a : Nat} (ha : a < 2 ^ 20) (k : G X 2 jX0_restAt M0 87 [some (.ref (5)), some (.int (nI a)), some (.int (nI (2 ^ m - 1))), some (.int (nI (a % (2 ^ m - 1)))), some (.int (nI (rsum m rq (a % (2 ^ m - 1)) (r)))), some (.int (nI ((r) * (a % (2 ^ m - 1)) % (2 ^ m - 1)))), some (.int (nI (r)))] [] M v M') : ∀ (zz i : Nat), i + zz = r → G X 2 jX0_restAt M0 23 [some (.ref (5)), some (.int (nI a)), some (.int (nI (2 ^ m - 1))), some (.int (nI (a % (2 ^ m - 1)))), some (.int (nI (rsum m rq (a % (2 ^ m - 1)) (i)))), some (.int (nI ((i) * (a % (2 ^ m - 1)) % (2 ^ m - 1)))), some (.int (nI (i)))] [] M v M' := by
  have ht := two_le hF.1.1 hF.1.2
  have hs : a % (2 ^ m - 1) < 2 ^ m - 1 := Nat.mod_lt _ (by omega)
  intro zz
  induction zz with
  | zero =>
    intro i hi
    have hi : i = r := by omega
    subst hi
    refine x_iload dX0_restAt_23 rfl ?_
    refine x_aload_n dX0_restAt_25 rfl rfl ?_
    refine x_getf (ci := 0) (kf := 8) dX0_restAt_26 rfl uX0 (by decide) fl_RX0_46 ho rfl ?_
    refine x_icmp_ge (tgt := 87) dX0_restAt_29 (by decide) (fun _ => ?_) (fun h => False.elim (h (nI_le (Nat.le_refl _) (by omega))))
    exact k
  | succ zz ih =>
    intro i hi
    have hem : i * (a % (2 ^ m - 1)) % (2 ^ m - 1) < 2 ^ m - 1 := Nat.mod_lt _ (by omega)
    refine x_iload dX0_restAt_23 rfl ?_
    refine x_aload_n dX0_restAt_25 rfl rfl ?_
    refine x_getf (ci := 0) (kf := 8) dX0_restAt_26 rfl uX0 (by decide) fl_RX0_46 ho rfl ?_
    refine x_icmp_ge (tgt := 87) dX0_restAt_29 (by decide) (fun h => False.elim (nI_ge (by omega : i < r) (by omega) h)) (fun _ => ?_)
    refine x_aload_n dX0_restAt_32 rfl rfl ?_
    refine x_getf (ci := 0) (kf := 4) dX0_restAt_33 rfl uX0 (by decide) fl_RX0_22 ho rfl ?_
    refine x_iload dX0_restAt_36 rfl ?_
    refine x_ild (j := i) dX0_restAt_38 hrs rfl (by omega) (by decide) ?_
    refine x_casti (y := nI (rq i).toNat) (hrq i (by omega)) ?_
    refine x_iconst (y := nI 1) dX0_restAt_39 rfl ?_
    refine x_icmp_ne (tgt := 58) dX0_restAt_40 (by decide) (fun h40 => ?_) (fun h40 => ?_)
    · refine x_iload dX0_restAt_58 rfl ?_
      refine x_iload_n dX0_restAt_60 rfl rfl ?_
      refine x_iadd dX0_restAt_61 ?_
      refine x_casti (y := nI (i * (a % (2 ^ m - 1)) % (2 ^ m - 1) + (a % (2 ^ m - 1)))) (nI_add _ _) ?_
      refine x_iload_n dX0_restAt_62 rfl rfl ?_
      refine x_icmp_lt (tgt := 75) dX0_restAt_63 (by decide) (fun h63 => ?_) (fun h63 => ?_)
      · refine x_iload dX0_restAt_75 rfl ?_
        refine x_iload_n dX0_restAt_77 rfl rfl ?_
        refine x_iadd dX0_restAt_78 ?_
        refine x_casti (y := nI ((i + 1) * (a % (2 ^ m - 1)) % (2 ^ m - 1))) (by rw [nI_add, em_2 hs ((nI_ltI (by omega) (by omega)).mp h63)]) ?_
        refine x_istore (ls' := [some (.ref (5)), some (.int (nI a)), some (.int (nI (2 ^ m - 1))), some (.int (nI (a % (2 ^ m - 1)))), some (.int (nI (rsum m rq (a % (2 ^ m - 1)) (i)))), some (.int (nI ((i + 1) * (a % (2 ^ m - 1)) % (2 ^ m - 1)))), some (.int (nI (i)))]) dX0_restAt_79 (by decide) rfl rfl ?_
        refine x_iinc (y := nI ((i) + 1)) (ls' := [some (.ref (5)), some (.int (nI a)), some (.int (nI (2 ^ m - 1))), some (.int (nI (a % (2 ^ m - 1)))), some (.int (nI (rsum m rq (a % (2 ^ m - 1)) (i)))), some (.int (nI ((i + 1) * (a % (2 ^ m - 1)) % (2 ^ m - 1)))), some (.int (nI ((i) + 1)))]) dX0_restAt_81 (by decide) rfl rfl (ii_add _ 1) rfl ?_
        refine x_goto (tgt := 23) dX0_restAt_84 (by decide) ?_
        have hz : rsum m rq (a % (2 ^ m - 1)) (i + 1) = rsum m rq (a % (2 ^ m - 1)) i := by
          show (if rq i then _ else _) = _; rw [rq_0 h40]; rfl
        rw [← hz]
        exact ih (i + 1) (by omega)
      · refine x_iload dX0_restAt_66 rfl ?_
        refine x_iload_n dX0_restAt_68 rfl rfl ?_
        refine x_iadd dX0_restAt_69 ?_
        refine x_casti (y := nI (i * (a % (2 ^ m - 1)) % (2 ^ m - 1) + (a % (2 ^ m - 1)))) (nI_add _ _) ?_
        refine x_iload_n dX0_restAt_70 rfl rfl ?_
        refine x_isub dX0_restAt_71 ?_
        refine x_casti (y := nI ((i + 1) * (a % (2 ^ m - 1)) % (2 ^ m - 1))) (by rw [pk_sub ((nI_leI (by omega) (by omega)).mp (Int32.not_lt.mp h63)), em_1 (by omega) hs ((nI_leI (by omega) (by omega)).mp (Int32.not_lt.mp h63))]) ?_
        refine x_goto (tgt := 79) dX0_restAt_72 (by decide) ?_
        refine x_istore (ls' := [some (.ref (5)), some (.int (nI a)), some (.int (nI (2 ^ m - 1))), some (.int (nI (a % (2 ^ m - 1)))), some (.int (nI (rsum m rq (a % (2 ^ m - 1)) (i)))), some (.int (nI ((i + 1) * (a % (2 ^ m - 1)) % (2 ^ m - 1)))), some (.int (nI (i)))]) dX0_restAt_79 (by decide) rfl rfl ?_
        refine x_iinc (y := nI ((i) + 1)) (ls' := [some (.ref (5)), some (.int (nI a)), some (.int (nI (2 ^ m - 1))), some (.int (nI (a % (2 ^ m - 1)))), some (.int (nI (rsum m rq (a % (2 ^ m - 1)) (i)))), some (.int (nI ((i + 1) * (a % (2 ^ m - 1)) % (2 ^ m - 1)))), some (.int (nI ((i) + 1)))]) dX0_restAt_81 (by decide) rfl rfl (ii_add _ 1) rfl ?_
        refine x_goto (tgt := 23) dX0_restAt_84 (by decide) ?_
        have hz : rsum m rq (a % (2 ^ m - 1)) (i + 1) = rsum m rq (a % (2 ^ m - 1)) i := by
          show (if rq i then _ else _) = _; rw [rq_0 h40]; rfl
        rw [← hz]
        exact ih (i + 1) (by omega)
    · refine x_iload dX0_restAt_43 rfl ?_
      refine x_aload_n dX0_restAt_45 rfl rfl ?_
      refine x_getf (ci := 0) (kf := 0) dX0_restAt_46 rfl uX0 (by decide) fl_RX0_32 ho rfl ?_
      refine x_getf (ci := 1) (kf := 0) dX0_restAt_49 rfl uX2 (by decide) fl_RX0_120 hf rfl ?_
      refine x_iload dX0_restAt_52 rfl ?_
      refine x_ild (j := (i) * (a % (2 ^ m - 1)) % (2 ^ m - 1)) dX0_restAt_54 hp rfl (by omega) (by decide) ?_
      refine x_casti (y := nI (pwr m (i * (a % (2 ^ m - 1))))) (by rw [(hF.2 _ hem).1, pwr_mod hF.1.1 hF.1.2]) ?_
      refine x_ixor dX0_restAt_55 ?_
      refine x_casti (y := nI (rsum m rq (a % (2 ^ m - 1)) (i + 1))) (by rw [nI_xor]; congr 1; show _ = if rq i then _ else _; rw [rq_1 h40]; rfl) ?_
      refine x_istore (ls' := [some (.ref (5)), some (.int (nI a)), some (.int (nI (2 ^ m - 1))), some (.int (nI (a % (2 ^ m - 1)))), some (.int (nI (rsum m rq (a % (2 ^ m - 1)) (i + 1)))), some (.int (nI ((i) * (a % (2 ^ m - 1)) % (2 ^ m - 1)))), some (.int (nI (i)))]) dX0_restAt_56 (by decide) rfl rfl ?_
      refine x_iload dX0_restAt_58 rfl ?_
      refine x_iload_n dX0_restAt_60 rfl rfl ?_
      refine x_iadd dX0_restAt_61 ?_
      refine x_casti (y := nI (i * (a % (2 ^ m - 1)) % (2 ^ m - 1) + (a % (2 ^ m - 1)))) (nI_add _ _) ?_
      refine x_iload_n dX0_restAt_62 rfl rfl ?_
      refine x_icmp_lt (tgt := 75) dX0_restAt_63 (by decide) (fun h63 => ?_) (fun h63 => ?_)
      · refine x_iload dX0_restAt_75 rfl ?_
        refine x_iload_n dX0_restAt_77 rfl rfl ?_
        refine x_iadd dX0_restAt_78 ?_
        refine x_casti (y := nI ((i + 1) * (a % (2 ^ m - 1)) % (2 ^ m - 1))) (by rw [nI_add, em_2 hs ((nI_ltI (by omega) (by omega)).mp h63)]) ?_
        refine x_istore (ls' := [some (.ref (5)), some (.int (nI a)), some (.int (nI (2 ^ m - 1))), some (.int (nI (a % (2 ^ m - 1)))), some (.int (nI (rsum m rq (a % (2 ^ m - 1)) (i + 1)))), some (.int (nI ((i + 1) * (a % (2 ^ m - 1)) % (2 ^ m - 1)))), some (.int (nI (i)))]) dX0_restAt_79 (by decide) rfl rfl ?_
        refine x_iinc (y := nI ((i) + 1)) (ls' := [some (.ref (5)), some (.int (nI a)), some (.int (nI (2 ^ m - 1))), some (.int (nI (a % (2 ^ m - 1)))), some (.int (nI (rsum m rq (a % (2 ^ m - 1)) (i + 1)))), some (.int (nI ((i + 1) * (a % (2 ^ m - 1)) % (2 ^ m - 1)))), some (.int (nI ((i) + 1)))]) dX0_restAt_81 (by decide) rfl rfl (ii_add _ 1) rfl ?_
        refine x_goto (tgt := 23) dX0_restAt_84 (by decide) ?_
        exact ih (i + 1) (by omega)
      · refine x_iload dX0_restAt_66 rfl ?_
        refine x_iload_n dX0_restAt_68 rfl rfl ?_
        refine x_iadd dX0_restAt_69 ?_
        refine x_casti (y := nI (i * (a % (2 ^ m - 1)) % (2 ^ m - 1) + (a % (2 ^ m - 1)))) (nI_add _ _) ?_
        refine x_iload_n dX0_restAt_70 rfl rfl ?_
        refine x_isub dX0_restAt_71 ?_
        refine x_casti (y := nI ((i + 1) * (a % (2 ^ m - 1)) % (2 ^ m - 1))) (by rw [pk_sub ((nI_leI (by omega) (by omega)).mp (Int32.not_lt.mp h63)), em_1 (by omega) hs ((nI_leI (by omega) (by omega)).mp (Int32.not_lt.mp h63))]) ?_
        refine x_goto (tgt := 79) dX0_restAt_72 (by decide) ?_
        refine x_istore (ls' := [some (.ref (5)), some (.int (nI a)), some (.int (nI (2 ^ m - 1))), some (.int (nI (a % (2 ^ m - 1)))), some (.int (nI (rsum m rq (a % (2 ^ m - 1)) (i + 1)))), some (.int (nI ((i + 1) * (a % (2 ^ m - 1)) % (2 ^ m - 1)))), some (.int (nI (i)))]) dX0_restAt_79 (by decide) rfl rfl ?_
        refine x_iinc (y := nI ((i) + 1)) (ls' := [some (.ref (5)), some (.int (nI a)), some (.int (nI (2 ^ m - 1))), some (.int (nI (a % (2 ^ m - 1)))), some (.int (nI (rsum m rq (a % (2 ^ m - 1)) (i + 1)))), some (.int (nI ((i + 1) * (a % (2 ^ m - 1)) % (2 ^ m - 1)))), some (.int (nI ((i) + 1)))]) dX0_restAt_81 (by decide) rfl rfl (ii_add _ 1) rfl ?_
        refine x_goto (tgt := 23) dX0_restAt_84 (by decide) ?_
        exact ih (i + 1) (by omega)
theorem c_restAt {X : Ev} {M : Hp} {t d r n : Nat} {hi lo : Int64} (ho : M[5]? = some (.inr (0, [.ref (1), .ref (6), .ref (7), .ref (8), .ref (9), .ref (10), .int (nI t), .int (nI d), .int (nI r), .int (nI n), .long (hi), .long (lo)]))) {m : Nat} {pw lg : Nat → Int32} (hf : M[1]? = some (.inr (1, [.ref (2), .ref (3), .ref (4), .int (nI m), .int (nI (2 ^ m - 1))]))) (hp : M[2]? = some (.inl (0, 8192, .inl (pw)))) (hF : FT pw lg m) {rs : Nat → Int32} {rq : Nat → Bool} (hrs : M[9]? = some (.inl (0, 104, .inl (rs)))) (hrq : ∀ j, j < r → rs j = nI (rq j).toNat) (hr : r ≤ 104) {a : Nat} (ha : a < 2 ^ 20) : Cl X 2 jX0_restAt [.ref (5), .int (nI a)] M (some (.int (nI (rsum m rq (a % (2 ^ m - 1)) r)))) M := by
  have ht := two_le hF.1.1 hF.1.2
  have hs : a % (2 ^ m - 1) < 2 ^ m - 1 := Nat.mod_lt _ (by omega)
  refine Cl.of (ls := [some (.ref (5)), some (.int (nI a)), none, none, none, none, none]) (by decide) rfl (Nat.le_of_ble_eq_true rfl) ?_
  refine x_aload_n dX0_restAt_0 rfl rfl ?_
  refine x_getf (ci := 0) (kf := 0) dX0_restAt_1 rfl uX0 (by decide) fl_RX0_32 ho rfl ?_
  refine x_getf (ci := 1) (kf := 4) dX0_restAt_4 rfl uX2 (by decide) fl_RX0_114 hf rfl ?_
  refine x_istore_n (ls' := [some (.ref (5)), some (.int (nI a)), some (.int (nI (2 ^ m - 1))), none, none, none, none]) dX0_restAt_7 rfl (by decide) rfl rfl ?_
  refine x_iload_n dX0_restAt_8 rfl rfl ?_
  refine x_iload_n dX0_restAt_9 rfl rfl ?_
  refine x_callS (as := [.int (nI a), .int (nI (2 ^ m - 1))]) dX0_restAt_10 mk_X1_reduced st_X1_reduced ml_RX0_117 (by decide) rfl rfl (Nat.le_of_ble_eq_true rfl) (c_reducedN (by omega) (by omega) (by omega)) ?_
  refine x_istore_n (ls' := [some (.ref (5)), some (.int (nI a)), some (.int (nI (2 ^ m - 1))), some (.int (nI (a % (2 ^ m - 1)))), none, none, none]) dX0_restAt_13 rfl (by decide) rfl rfl ?_
  refine x_iconst (y := nI 0) dX0_restAt_14 rfl ?_
  refine x_istore (ls' := [some (.ref (5)), some (.int (nI a)), some (.int (nI (2 ^ m - 1))), some (.int (nI (a % (2 ^ m - 1)))), some (.int (nI 0)), none, none]) dX0_restAt_15 (by decide) rfl rfl ?_
  refine x_iconst (y := nI 0) dX0_restAt_17 rfl ?_
  refine x_istore (ls' := [some (.ref (5)), some (.int (nI a)), some (.int (nI (2 ^ m - 1))), some (.int (nI (a % (2 ^ m - 1)))), some (.int (nI 0)), some (.int (nI 0)), none]) dX0_restAt_18 (by decide) rfl rfl ?_
  refine x_iconst (y := nI 0) dX0_restAt_20 rfl ?_
  refine x_istore (ls' := [some (.ref (5)), some (.int (nI a)), some (.int (nI (2 ^ m - 1))), some (.int (nI (a % (2 ^ m - 1)))), some (.int (nI 0)), some (.int (nI 0)), some (.int (nI 0))]) dX0_restAt_21 (by decide) rfl rfl ?_
  have h0 : 0 * (a % (2 ^ m - 1)) % (2 ^ m - 1) = 0 := by rw [Nat.zero_mul, Nat.zero_mod]
  have hl := lp_restAt (X := X) (M0 := M) (v := some (.int (nI (rsum m rq (a % (2 ^ m - 1)) r)))) (M' := M) ho hf hp hF hrs hrq hr ha (by
    refine x_iload dX0_restAt_87 rfl ?_
    exact x_ireturn_eq dX0_restAt_89 rfl rfl) r 0 (by omega)
  rw [h0] at hl
  exact hl
end
section
/-! CODE: the polynomial in the register, the tables of steps -/
def ldH (pq : Nat → Bool) (r : Nat) : Nat → Int64
  | 0 => 0
  | q + 1 => if q < 64 then ldH pq r q ||| ((nI (pq (r - 1 - q)).toNat).toInt64 <<< ((nI (63 - q)).toInt64 &&& 63)) else ldH pq r q
def ldL (pq : Nat → Bool) (r : Nat) : Nat → Int64
  | 0 => 0
  | q + 1 => if q < 64 then ldL pq r q else ldL pq r q ||| ((nI (pq (r - 1 - q)).toNat).toInt64 <<< ((nI (127 - q)).toInt64 &&& 63))
theorem ld_fw {X : Ev} {d' : Nat} {M0 M M' : Hp} {v : Option Value} {pc : Nat} {a b j : Value} (k : G X d' jX0_loadPolynomial M0 pc [some a, some b, none, none] [] M v M') : G X d' jX0_loadPolynomial M0 pc [some a, some b, some j, none] [] M v M' := x_fewer (fun q w h => by match q, h with | 0, h => exact h | 1, h => exact h | 2, h => cases h | 3, h => cases h | q + 4, h => cases h) k
theorem lp_load {X : Ev} {M0 M M' : Hp} {v : Option Value} {t d r n : Nat} {hi lo : Int64} (ho : M[5]? = some (.inr (0, [.ref (1), .ref (6), .ref (7), .ref (8), .ref (9), .ref (10), .int (nI t), .int (nI d), .int (nI r), .int (nI n), .long (hi), .long (lo)]))) {pl : Nat → Int32} {pq : Nat → Bool} (hpl : M[6]? = some (.inl (0, 105, .inl (pl)))) (hpq : ∀ j, j < r → pl j = nI (pq j).toNat) (hr : r ≤ 104) (k : G X 0 jX0_loadPolynomial M0 80 [some (.ref (5)), some (.int (nI (r))), none, none] [] (M.set (5) (.inr (0, [.ref (1), .ref (6), .ref (7), .ref (8), .ref (9), .ref (10), .int (nI t), .int (nI d), .int (nI r), .int (nI n), .long (ldH pq r (r)), .long (ldL pq r (r))]))) v M') : ∀ (zz i : Nat), i + zz = r → G X 0 jX0_loadPolynomial M0 12 [some (.ref (5)), some (.int (nI (i))), none, none] [] (M.set (5) (.inr (0, [.ref (1), .ref (6), .ref (7), .ref (8), .ref (9), .ref (10), .int (nI t), .int (nI d), .int (nI r), .int (nI n), .long (ldH pq r (i)), .long (ldL pq r (i))]))) v M' := by
  intro zz
  induction zz with
  | zero =>
    intro i hii
    have hii : i = r := by omega
    subst hii
    refine x_iload_n dX0_loadPolynomial_12 rfl rfl ?_
    refine x_aload_n dX0_loadPolynomial_13 rfl rfl ?_
    refine x_getf (ci := 0) (kf := 8) dX0_loadPolynomial_14 rfl uX0 (by decide) fl_RX0_46 (gs ho) rfl ?_
    refine x_icmp_ge (tgt := 80) dX0_loadPolynomial_17 (by decide) (fun _ => ?_) (fun h => False.elim (h (nI_le (Nat.le_refl _) (by omega))))
    exact k
  | succ zz ih =>
    intro i hii
    refine x_iload_n dX0_loadPolynomial_12 rfl rfl ?_
    refine x_aload_n dX0_loadPolynomial_13 rfl rfl ?_
    refine x_getf (ci := 0) (kf := 8) dX0_loadPolynomial_14 rfl uX0 (by decide) fl_RX0_46 (gs ho) rfl ?_
    refine x_icmp_ge (tgt := 80) dX0_loadPolynomial_17 (by decide) (fun h => False.elim (nI_ge (by omega : i < r) (by omega) h)) (fun _ => ?_)
    refine x_aload_n dX0_loadPolynomial_20 rfl rfl ?_
    refine x_getf (ci := 0) (kf := 1) dX0_loadPolynomial_21 rfl uX0 (by decide) fl_RX0_9 (gs ho) rfl ?_
    refine x_aload_n dX0_loadPolynomial_24 rfl rfl ?_
    refine x_getf (ci := 0) (kf := 8) dX0_loadPolynomial_25 rfl uX0 (by decide) fl_RX0_46 (gs ho) rfl ?_
    refine x_iconst (y := nI 1) dX0_loadPolynomial_28 rfl ?_
    refine x_isub dX0_loadPolynomial_29 ?_
    refine x_casti (y := nI (r - 1)) (pk_sub (by omega)) ?_
    refine x_iload_n dX0_loadPolynomial_30 rfl rfl ?_
    refine x_isub dX0_loadPolynomial_31 ?_
    refine x_casti (y := nI (r - 1 - i)) (pk_sub (by omega)) ?_
    refine x_ild (j := r - 1 - i) dX0_loadPolynomial_32 (gn hpl (by decide)) rfl (by omega) (by decide) ?_
    refine x_casti (y := nI (pq (r - 1 - i)).toNat) (hpq _ (by omega)) ?_
    refine x_i2l dX0_loadPolynomial_33 ?_
    refine x_lstore_n (ls' := [some (.ref (5)), some (.int (nI (i))), some (.long ((nI (pq (r - 1 - i)).toNat).toInt64)), none]) dX0_loadPolynomial_34 rfl (by decide) rfl rfl ?_
    refine x_iload_n dX0_loadPolynomial_35 rfl rfl ?_
    refine x_bipush (y := nI 64) dX0_loadPolynomial_36 rfl ?_
    refine x_icmp_ge (tgt := 59) dX0_loadPolynomial_38 (by decide) (fun h38 => ?_) (fun h38 => ?_)
    · refine x_aload_n dX0_loadPolynomial_59 rfl rfl ?_
      refine x_dup dX0_loadPolynomial_60 rfl ?_
      refine x_getf (ci := 0) (kf := 11) dX0_loadPolynomial_61 rfl uX0 (by decide) fl_RX0_95 (gs ho) rfl ?_
      refine x_lload_n dX0_loadPolynomial_64 rfl rfl ?_
      refine x_bipush (y := nI 127) dX0_loadPolynomial_65 rfl ?_
      refine x_iload_n dX0_loadPolynomial_67 rfl rfl ?_
      refine x_isub dX0_loadPolynomial_68 ?_
      refine x_casti (y := nI (127 - i)) (nI_127 (by omega)) ?_
      refine x_lshl dX0_loadPolynomial_69 ?_
      refine x_lor dX0_loadPolynomial_70 ?_
      refine x_castl (y := ldL pq r (i + 1)) (by show _ = if i < 64 then _ else _; rw [if_neg (by have hz := (nI_leI (by decide) (by omega)).mp h38; omega)]) ?_
      refine x_putf (ci := 0) (kf := 11) (ty0 := tyX0) (M1 := (M.set (5) (.inr (0, [.ref (1), .ref (6), .ref (7), .ref (8), .ref (9), .ref (10), .int (nI t), .int (nI d), .int (nI r), .int (nI n), .long (ldH pq r (i)), .long (ldL pq r (i + 1))])))) dX0_loadPolynomial_71 rfl uX0 tyX0_ok nmX0 (by decide) fl_RX0_95 rfl rfl rfl rfl (gs ho) (Nat.le_of_ble_eq_true rfl) (ss0) ?_
      refine x_iinc (y := nI ((i) + 1)) (ls' := [some (.ref (5)), some (.int (nI ((i) + 1))), some (.long ((nI (pq (r - 1 - i)).toNat).toInt64)), none]) dX0_loadPolynomial_74 (by decide) rfl rfl (ii_add _ 1) rfl ?_
      refine x_goto (tgt := 12) dX0_loadPolynomial_77 (by decide) ?_
      have hz : ldH pq r (i + 1) = ldH pq r i := if_neg (by have hz := (nI_leI (by decide) (by omega)).mp h38; omega)
      rw [← hz]
      refine ld_fw ?_
      exact ih (i + 1) (by omega)
    · refine x_aload_n dX0_loadPolynomial_41 rfl rfl ?_
      refine x_dup dX0_loadPolynomial_42 rfl ?_
      refine x_getf (ci := 0) (kf := 10) dX0_loadPolynomial_43 rfl uX0 (by decide) fl_RX0_91 (gs ho) rfl ?_
      refine x_lload_n dX0_loadPolynomial_46 rfl rfl ?_
      refine x_bipush (y := nI 63) dX0_loadPolynomial_47 rfl ?_
      refine x_iload_n dX0_loadPolynomial_49 rfl rfl ?_
      refine x_isub dX0_loadPolynomial_50 ?_
      refine x_casti (y := nI (63 - i)) (nI_63q (by have hz := Nat.lt_of_not_le (fun z : 64 ≤ i => h38 (nI_le z (by omega))); omega)) ?_
      refine x_lshl dX0_loadPolynomial_51 ?_
      refine x_lor dX0_loadPolynomial_52 ?_
      refine x_castl (y := ldH pq r (i + 1)) (by show _ = if i < 64 then _ else _; rw [if_pos (Nat.lt_of_not_le (fun z : 64 ≤ i => h38 (nI_le z (by omega))))]) ?_
      refine x_putf (ci := 0) (kf := 10) (ty0 := tyX0) (M1 := (M.set (5) (.inr (0, [.ref (1), .ref (6), .ref (7), .ref (8), .ref (9), .ref (10), .int (nI t), .int (nI d), .int (nI r), .int (nI n), .long (ldH pq r (i + 1)), .long (ldL pq r (i))])))) dX0_loadPolynomial_53 rfl uX0 tyX0_ok nmX0 (by decide) fl_RX0_91 rfl rfl rfl rfl (gs ho) (Nat.le_of_ble_eq_true rfl) (ss0) ?_
      refine x_goto (tgt := 74) dX0_loadPolynomial_56 (by decide) ?_
      refine x_iinc (y := nI ((i) + 1)) (ls' := [some (.ref (5)), some (.int (nI ((i) + 1))), some (.long ((nI (pq (r - 1 - i)).toNat).toInt64)), none]) dX0_loadPolynomial_74 (by decide) rfl rfl (ii_add _ 1) rfl ?_
      refine x_goto (tgt := 12) dX0_loadPolynomial_77 (by decide) ?_
      have hz : ldL pq r (i + 1) = ldL pq r i := if_pos (Nat.lt_of_not_le (fun z : 64 ≤ i => h38 (nI_le z (by omega))))
      rw [← hz]
      refine ld_fw ?_
      exact ih (i + 1) (by omega)
theorem c_loadPolynomial {X : Ev} {M : Hp} {t d r n : Nat} {hi lo : Int64} (ho : M[5]? = some (.inr (0, [.ref (1), .ref (6), .ref (7), .ref (8), .ref (9), .ref (10), .int (nI t), .int (nI d), .int (nI r), .int (nI n), .long (hi), .long (lo)]))) {pl : Nat → Int32} {pq : Nat → Bool} (hpl : M[6]? = some (.inl (0, 105, .inl (pl)))) (hpq : ∀ j, j < r → pl j = nI (pq j).toNat) (hr : r ≤ 104) : Cl X 0 jX0_loadPolynomial [.ref (5)] M none (M.set 5 (.inr (0, [.ref (1), .ref (6), .ref (7), .ref (8), .ref (9), .ref (10), .int (nI t), .int (nI d), .int (nI r), .int (nI n), .long (ldH pq r (r)), .long (ldL pq r (r))]))) := by
  refine Cl.of (ls := [some (.ref (5)), none, none, none]) (by decide) rfl (Nat.le_of_ble_eq_true rfl) ?_
  refine x_aload_n dX0_loadPolynomial_0 rfl rfl ?_
  refine x_lconst (y := 0) dX0_loadPolynomial_1 rfl ?_
  refine x_putf (ci := 0) (kf := 10) (ty0 := tyX0) (M1 := (M.set (5) (.inr (0, [.ref (1), .ref (6), .ref (7), .ref (8), .ref (9), .ref (10), .int (nI t), .int (nI d), .int (nI r), .int (nI n), .long (0), .long (lo)])))) dX0_loadPolynomial_2 rfl uX0 tyX0_ok nmX0 (by decide) fl_RX0_91 rfl rfl rfl rfl ho (Nat.le_of_ble_eq_true rfl) rfl ?_
  refine x_aload_n dX0_loadPolynomial_5 rfl rfl ?_
  refine x_lconst (y := 0) dX0_loadPolynomial_6 rfl ?_
  refine x_putf (ci := 0) (kf := 11) (ty0 := tyX0) (M1 := (M.set (5) (.inr (0, [.ref (1), .ref (6), .ref (7), .ref (8), .ref (9), .ref (10), .int (nI t), .int (nI d), .int (nI r), .int (nI n), .long (0), .long (0)])))) dX0_loadPolynomial_7 rfl uX0 tyX0_ok nmX0 (by decide) fl_RX0_95 rfl rfl rfl rfl (gs ho) (Nat.le_of_ble_eq_true rfl) (ss0) ?_
  refine x_iconst (y := nI 0) dX0_loadPolynomial_10 rfl ?_
  refine x_istore_n (ls' := [some (.ref (5)), some (.int (nI 0)), none, none]) dX0_loadPolynomial_11 rfl (by decide) rfl rfl ?_
  exact lp_load ho hpl hpq hr (x_ret dX0_loadPolynomial_80 rfl) r 0 (by omega)
/-- the entries base + l, l < k, of a table become x ^ entry l -/
def hin (f : Nat → Int64) (base : Nat) (x : Int64) : Nat → (Nat → Int64)
  | 0 => f
  | l + 1 => vp_updL (hin f base x l) (base + l) (x ^^^ hin f base x l l)
def shH (hP hi lo : Int64) : Int64 := if hi < 0 then ((hi <<< ((nI 1).toInt64 &&& 63)) ||| ((lo.toUInt64 >>> ((nI 63).toInt64.toUInt64 &&& Int64.toUInt64 63)).toInt64)) ^^^ hP else (hi <<< ((nI 1).toInt64 &&& 63)) ||| ((lo.toUInt64 >>> ((nI 63).toInt64.toUInt64 &&& Int64.toUInt64 63)).toInt64)
def shL (lP hi lo : Int64) : Int64 := if hi < 0 then (lo <<< ((nI 1).toInt64 &&& 63)) ^^^ lP else lo <<< ((nI 1).toInt64 &&& 63)
def rgs (hP lP : Int64) : Nat → Int64 × Int64
  | 0 => (hP, lP)
  | b + 1 => (shH hP (rgs hP lP b).1 (rgs hP lP b).2, shL lP (rgs hP lP b).1 (rgs hP lP b).2)
def stpH (hs : Nat → Int64) (hP lP : Int64) : Nat → (Nat → Int64)
  | 0 => hs
  | b + 1 => hin (stpH hs hP lP b) (2 ^ b) (rgs hP lP b).1 (2 ^ b)
def stpL (ls : Nat → Int64) (hP lP : Int64) : Nat → (Nat → Int64)
  | 0 => ls
  | b + 1 => hin (stpL ls hP lP b) (2 ^ b) (rgs hP lP b).2 (2 ^ b)
theorem lgc {x : Int64} : 0 ≤ lg_cmp x 0 ↔ ¬ x < 0 := by
  unfold lg_cmp
  by_cases h1 : (0 : Int64) < x
  · rw [if_pos h1]
    exact ⟨fun _ h2 => absurd h2 (lg_lt_not h1), fun _ => by decide⟩
  · rw [if_neg h1]
    by_cases h2 : x = 0
    · rw [if_pos h2, h2]
      exact ⟨fun _ => by decide, fun _ => by decide⟩
    · rw [if_neg h2]
      refine ⟨fun h => absurd h (by decide), fun h => ?_⟩
      rw [Int64.lt_iff_toInt_lt] at h h1
      have h3 : (0 : Int64).toInt = 0 := rfl
      exact absurd (Int64.toInt_inj.mp (show x.toInt = (0 : Int64).toInt by omega)) h2
theorem pow_b {b : Nat} (h : b < 8) : 2 ^ b ≤ 128 ∧ 1 ≤ 2 ^ b := ⟨Nat.pow_le_pow_right (n := 2) (j := 7) (by decide) (by omega), Nat.two_pow_pos b⟩
theorem sl_b {b : Nat} (h : b < 8) : nI (2 ^ b) <<< (nI 1 &&& 31) = nI (2 ^ (b + 1)) := by
  rw [sl_1 (by have := (pow_b h).1; omega), Nat.pow_succ, Nat.mul_comm]
theorem lp_steps1 {X : Ev} {M0 M M' : Hp} {v : Option Value} {t d r n : Nat} {hi lo : Int64} (ho : M[5]? = some (.inr (0, [.ref (1), .ref (6), .ref (7), .ref (8), .ref (9), .ref (10), .int (nI t), .int (nI d), .int (nI r), .int (nI n), .long (hi), .long (lo)]))) {hs ls : Nat → Int64} (hh : M[7]? = some (.inl (1, 256, .inr (.inl (hs))))) (hl : M[8]? = some (.inl (1, 256, .inr (.inl (ls))))) {hP lP : Int64} {b : Nat} (hb : b < 8) (k : G X 1 jX0_makeSteps M0 85 [some (.ref (5)), some (.long (hP)), none, some (.long (lP)), none, some (.int (nI (2 ^ b))), some (.int (nI ((2 ^ b))))] [] ((M.set (7) (.inl (1, 256, .inr (.inl (hin hs (2 ^ b) hi ((2 ^ b))))))).set (8) (.inl (1, 256, .inr (.inl (hin ls (2 ^ b) lo ((2 ^ b))))))) v M') : ∀ (zz i : Nat), i + zz = (2 ^ b) → G X 1 jX0_makeSteps M0 28 [some (.ref (5)), some (.long (hP)), none, some (.long (lP)), none, some (.int (nI (2 ^ b))), some (.int (nI (i)))] [] ((M.set (7) (.inl (1, 256, .inr (.inl (hin hs (2 ^ b) hi (i)))))).set (8) (.inl (1, 256, .inr (.inl (hin ls (2 ^ b) lo (i)))))) v M' := by
  have hpb := pow_b hb
  intro zz
  induction zz with
  | zero =>
    intro i hii
    have hii : i = (2 ^ b) := by omega
    subst hii
    refine x_iload dX0_makeSteps_28 rfl ?_
    refine x_iload dX0_makeSteps_30 rfl ?_
    refine x_icmp_ge (tgt := 85) dX0_makeSteps_32 (by decide) (fun _ => ?_) (fun h => False.elim (h (nI_le (Nat.le_refl _) (by omega))))
    exact k
  | succ zz ih =>
    intro i hii
    refine x_iload dX0_makeSteps_28 rfl ?_
    refine x_iload dX0_makeSteps_30 rfl ?_
    refine x_icmp_ge (tgt := 85) dX0_makeSteps_32 (by decide) (fun h => False.elim (nI_ge (by omega : i < 2 ^ b) (by omega) h)) (fun _ => ?_)
    refine x_aload_n dX0_makeSteps_35 rfl rfl ?_
    refine x_getf (ci := 0) (kf := 2) dX0_makeSteps_36 rfl uX0 (by decide) fl_RX0_15 (gn (gn ho (by decide)) (by decide)) rfl ?_
    refine x_iload dX0_makeSteps_39 rfl ?_
    refine x_iload dX0_makeSteps_41 rfl ?_
    refine x_iadd dX0_makeSteps_43 ?_
    refine x_casti (y := nI (2 ^ b + i)) (nI_add _ _) ?_
    refine x_aload_n dX0_makeSteps_44 rfl rfl ?_
    refine x_getf (ci := 0) (kf := 10) dX0_makeSteps_45 rfl uX0 (by decide) fl_RX0_91 (gn (gn ho (by decide)) (by decide)) rfl ?_
    refine x_aload_n dX0_makeSteps_48 rfl rfl ?_
    refine x_getf (ci := 0) (kf := 2) dX0_makeSteps_49 rfl uX0 (by decide) fl_RX0_15 (gn (gn ho (by decide)) (by decide)) rfl ?_
    refine x_iload dX0_makeSteps_52 rfl ?_
    refine x_lld (j := i) dX0_makeSteps_54 (gn (gs hh) (by decide)) rfl (by omega) (by decide) ?_
    refine x_lxor dX0_makeSteps_55 ?_
    refine x_lst (j := 2 ^ b + i) (M1 := ((M.set (7) (.inl (1, 256, .inr (.inl (hin hs (2 ^ b) hi (i + 1)))))).set (8) (.inl (1, 256, .inr (.inl (hin ls (2 ^ b) lo (i))))))) dX0_makeSteps_56 (gn (gs hh) (by decide)) rfl (by omega) (by decide) (by rw [show vp_updL (hin hs (2 ^ b) hi (i)) (2 ^ b + i) ((hi) ^^^ ((hin hs (2 ^ b) hi (i)) (i))) = (hin hs (2 ^ b) hi (i + 1)) from rfl] <;> exact (ss1 (by decide))) ?_
    refine x_aload_n dX0_makeSteps_57 rfl rfl ?_
    refine x_getf (ci := 0) (kf := 3) dX0_makeSteps_58 rfl uX0 (by decide) fl_RX0_19 (gn (gn ho (by decide)) (by decide)) rfl ?_
    refine x_iload dX0_makeSteps_61 rfl ?_
    refine x_iload dX0_makeSteps_63 rfl ?_
    refine x_iadd dX0_makeSteps_65 ?_
    refine x_casti (y := nI (2 ^ b + i)) (nI_add _ _) ?_
    refine x_aload_n dX0_makeSteps_66 rfl rfl ?_
    refine x_getf (ci := 0) (kf := 11) dX0_makeSteps_67 rfl uX0 (by decide) fl_RX0_95 (gn (gn ho (by decide)) (by decide)) rfl ?_
    refine x_aload_n dX0_makeSteps_70 rfl rfl ?_
    refine x_getf (ci := 0) (kf := 3) dX0_makeSteps_71 rfl uX0 (by decide) fl_RX0_19 (gn (gn ho (by decide)) (by decide)) rfl ?_
    refine x_iload dX0_makeSteps_74 rfl ?_
    refine x_lld (j := i) dX0_makeSteps_76 (gs (gn hl (by decide))) rfl (by omega) (by decide) ?_
    refine x_lxor dX0_makeSteps_77 ?_
    refine x_lst (j := 2 ^ b + i) (M1 := ((M.set (7) (.inl (1, 256, .inr (.inl (hin hs (2 ^ b) hi (i + 1)))))).set (8) (.inl (1, 256, .inr (.inl (hin ls (2 ^ b) lo (i + 1))))))) dX0_makeSteps_78 (gs (gn hl (by decide))) rfl (by omega) (by decide) (by rw [show vp_updL (hin ls (2 ^ b) lo (i)) (2 ^ b + i) ((lo) ^^^ ((hin ls (2 ^ b) lo (i)) (i))) = (hin ls (2 ^ b) lo (i + 1)) from rfl] <;> exact (ss0)) ?_
    refine x_iinc (y := nI ((i) + 1)) (ls' := [some (.ref (5)), some (.long (hP)), none, some (.long (lP)), none, some (.int (nI (2 ^ b))), some (.int (nI ((i) + 1)))]) dX0_makeSteps_79 (by decide) rfl rfl (ii_add _ 1) rfl ?_
    refine x_goto (tgt := 28) dX0_makeSteps_82 (by decide) ?_
    exact ih (i + 1) (by omega)
theorem st_fw {X : Ev} {d' : Nat} {M0 M M' : Hp} {v : Option Value} {pc : Nat} {a b c e j : Value} (k : G X d' jX0_makeSteps M0 pc [some a, some b, none, some c, none, some e, none] [] M v M') : G X d' jX0_makeSteps M0 pc [some a, some b, none, some c, none, some e, some j] [] M v M' := x_fewer (fun q w h => by match q, h with | 0, h => exact h | 1, h => exact h | 2, h => cases h | 3, h => exact h | 4, h => cases h | 5, h => exact h | 6, h => cases h | q + 7, h => cases h) k
theorem lp_steps2 {X : Ev} {M0 M M' : Hp} {v : Option Value} {t d r n : Nat} {hi lo : Int64} (ho : M[5]? = some (.inr (0, [.ref (1), .ref (6), .ref (7), .ref (8), .ref (9), .ref (10), .int (nI t), .int (nI d), .int (nI r), .int (nI n), .long (hi), .long (lo)]))) {hs ls : Nat → Int64} (hh : M[7]? = some (.inl (1, 256, .inr (.inl (hs))))) (hl : M[8]? = some (.inl (1, 256, .inr (.inl (ls))))) {hP lP : Int64} (k : G X 1 jX0_makeSteps M0 163 [some (.ref (5)), some (.long (hP)), none, some (.long (lP)), none, some (.int (nI (2 ^ (8)))), none] [] (((M.set (5) (.inr (0, [.ref (1), .ref (6), .ref (7), .ref (8), .ref (9), .ref (10), .int (nI t), .int (nI d), .int (nI r), .int (nI n), .long ((rgs hP lP (8)).1), .long ((rgs hP lP (8)).2)]))).set (7) (.inl (1, 256, .inr (.inl (stpH hs hP lP (8)))))).set (8) (.inl (1, 256, .inr (.inl (stpL ls hP lP (8)))))) v M') : ∀ (zz b : Nat), b + zz = 8 → G X 1 jX0_makeSteps M0 17 [some (.ref (5)), some (.long (hP)), none, some (.long (lP)), none, some (.int (nI (2 ^ (b)))), none] [] (((M.set (5) (.inr (0, [.ref (1), .ref (6), .ref (7), .ref (8), .ref (9), .ref (10), .int (nI t), .int (nI d), .int (nI r), .int (nI n), .long ((rgs hP lP (b)).1), .long ((rgs hP lP (b)).2)]))).set (7) (.inl (1, 256, .inr (.inl (stpH hs hP lP (b)))))).set (8) (.inl (1, 256, .inr (.inl (stpL ls hP lP (b)))))) v M' := by
  intro zz
  induction zz with
  | zero =>
    intro b hb
    have hb : b = 8 := by omega
    subst hb
    refine x_iload dX0_makeSteps_17 rfl ?_
    refine x_sipush (y := nI 256) dX0_makeSteps_19 rfl ?_
    refine x_icmp_ge (tgt := 163) dX0_makeSteps_22 (by decide) (fun _ => ?_) (fun h => False.elim (h (nI_le (a := 256) (b := 2 ^ 8) (by decide) (by decide))))
    exact k
  | succ zz ih =>
    intro b hb
    have hb8 : b < 8 := by omega
    have hpb := pow_b hb8
    refine x_iload dX0_makeSteps_17 rfl ?_
    refine x_sipush (y := nI 256) dX0_makeSteps_19 rfl ?_
    refine x_icmp_ge (tgt := 163) dX0_makeSteps_22 (by decide) (fun h => False.elim (nI_ge (by omega : 2 ^ b < 256) (by decide) h)) (fun _ => ?_)
    refine x_iconst (y := nI 0) dX0_makeSteps_25 rfl ?_
    refine x_istore (ls' := [some (.ref (5)), some (.long (hP)), none, some (.long (lP)), none, some (.int (nI (2 ^ (b)))), some (.int (nI 0))]) dX0_makeSteps_26 (by decide) rfl rfl ?_
    have hs7 : ((((M.set (5) (.inr (0, [.ref (1), .ref (6), .ref (7), .ref (8), .ref (9), .ref (10), .int (nI t), .int (nI d), .int (nI r), .int (nI n), .long ((rgs hP lP (b)).1), .long ((rgs hP lP (b)).2)]))).set (7) (.inl (1, 256, .inr (.inl (stpH hs hP lP (b)))))).set (8) (.inl (1, 256, .inr (.inl (stpL ls hP lP (b)))))) : Hp)[7]? = some (.inl (1, 256, .inr (.inl (stpH hs hP lP (b))))) := (gn (gs (gn hh (by decide))) (by decide))
    have hs8 : ((((M.set (5) (.inr (0, [.ref (1), .ref (6), .ref (7), .ref (8), .ref (9), .ref (10), .int (nI t), .int (nI d), .int (nI r), .int (nI n), .long ((rgs hP lP (b)).1), .long ((rgs hP lP (b)).2)]))).set (7) (.inl (1, 256, .inr (.inl (stpH hs hP lP (b)))))).set (8) (.inl (1, 256, .inr (.inl (stpL ls hP lP (b)))))) : Hp)[8]? = some (.inl (1, 256, .inr (.inl (stpL ls hP lP (b))))) := (gs (gn (gn hl (by decide)) (by decide)))
    have hs5 : ((((M.set (5) (.inr (0, [.ref (1), .ref (6), .ref (7), .ref (8), .ref (9), .ref (10), .int (nI t), .int (nI d), .int (nI r), .int (nI n), .long ((rgs hP lP (b)).1), .long ((rgs hP lP (b)).2)]))).set (7) (.inl (1, 256, .inr (.inl (stpH hs hP lP (b)))))).set (8) (.inl (1, 256, .inr (.inl (stpL ls hP lP (b)))))) : Hp)[5]? = some (.inr (0, [.ref (1), .ref (6), .ref (7), .ref (8), .ref (9), .ref (10), .int (nI t), .int (nI d), .int (nI r), .int (nI n), .long ((rgs hP lP (b)).1), .long ((rgs hP lP (b)).2)])) := (gn (gn (gs ho) (by decide)) (by decide))
    refine G.hp ((set_id hs7 (c' := .inl (1, 256, .inr (.inl (hin (stpH hs hP lP b) (2 ^ b) (rgs hP lP b).1 0)))) rfl).trans (set_id (gn hs8 (by decide)) (c' := .inl (1, 256, .inr (.inl (hin (stpL ls hP lP b) (2 ^ b) (rgs hP lP b).2 0)))) rfl)) (lp_steps1 hs5 hs7 hs8 hb8 ?_ (2 ^ b) 0 (by omega))
    refine G.hp (show _ = (((M.set (5) (.inr (0, [.ref (1), .ref (6), .ref (7), .ref (8), .ref (9), .ref (10), .int (nI t), .int (nI d), .int (nI r), .int (nI n), .long ((rgs hP lP (b)).1), .long ((rgs hP lP (b)).2)]))).set (7) (.inl (1, 256, .inr (.inl (stpH hs hP lP (b + 1)))))).set (8) (.inl (1, 256, .inr (.inl (stpL ls hP lP (b + 1)))))) from by
      rw [ss1 (p := 7) (q := 8) (by decide), ss0]; rfl) ?_
    refine x_aload_n dX0_makeSteps_85 rfl rfl ?_
    refine x_getf (ci := 0) (kf := 10) dX0_makeSteps_86 rfl uX0 (by decide) fl_RX0_91 (gn (gn (gs ho) (by decide)) (by decide)) rfl ?_
    refine x_lconst (y := 0) dX0_makeSteps_89 rfl ?_
    refine x_lcmp dX0_makeSteps_90 ?_
    refine x_if_ge (tgt := 98) dX0_makeSteps_91 (by decide) (fun h91 => ?_) (fun h91 => ?_)
    · refine x_iconst (y := nI 0) dX0_makeSteps_98 rfl ?_
      refine x_istore (ls' := [some (.ref (5)), some (.long (hP)), none, some (.long (lP)), none, some (.int (nI (2 ^ b))), some (.int (nI 0))]) dX0_makeSteps_99 (by decide) rfl rfl ?_
      refine x_aload_n dX0_makeSteps_101 rfl rfl ?_
      refine x_aload_n dX0_makeSteps_102 rfl rfl ?_
      refine x_getf (ci := 0) (kf := 10) dX0_makeSteps_103 rfl uX0 (by decide) fl_RX0_91 (gn (gn (gs ho) (by decide)) (by decide)) rfl ?_
      refine x_iconst (y := nI 1) dX0_makeSteps_106 rfl ?_
      refine x_lshl dX0_makeSteps_107 ?_
      refine x_aload_n dX0_makeSteps_108 rfl rfl ?_
      refine x_getf (ci := 0) (kf := 11) dX0_makeSteps_109 rfl uX0 (by decide) fl_RX0_95 (gn (gn (gs ho) (by decide)) (by decide)) rfl ?_
      refine x_bipush (y := nI 63) dX0_makeSteps_112 rfl ?_
      refine x_lushr dX0_makeSteps_114 ?_
      refine x_lor dX0_makeSteps_115 ?_
      refine x_putf (ci := 0) (kf := 10) (ty0 := tyX0) (M1 := (((M.set (5) (.inr (0, [.ref (1), .ref (6), .ref (7), .ref (8), .ref (9), .ref (10), .int (nI t), .int (nI d), .int (nI r), .int (nI n), .long ((((rgs hP lP (b)).1) <<< ((nI 1).toInt64 &&& 63)) ||| ((((rgs hP lP (b)).2).toUInt64 >>> ((nI 63).toInt64.toUInt64 &&& Int64.toUInt64 63)).toInt64)), .long ((rgs hP lP (b)).2)]))).set (7) (.inl (1, 256, .inr (.inl (stpH hs hP lP (b + 1)))))).set (8) (.inl (1, 256, .inr (.inl (stpL ls hP lP (b + 1))))))) dX0_makeSteps_116 rfl uX0 tyX0_ok nmX0 (by decide) fl_RX0_91 rfl rfl rfl rfl (gn (gn (gs ho) (by decide)) (by decide)) (Nat.le_of_ble_eq_true rfl) (ss2 (by decide) (by decide)) ?_
      refine x_aload_n dX0_makeSteps_119 rfl rfl ?_
      refine x_dup dX0_makeSteps_120 rfl ?_
      refine x_getf (ci := 0) (kf := 11) dX0_makeSteps_121 rfl uX0 (by decide) fl_RX0_95 (gn (gn (gs ho) (by decide)) (by decide)) rfl ?_
      refine x_iconst (y := nI 1) dX0_makeSteps_124 rfl ?_
      refine x_lshl dX0_makeSteps_125 ?_
      refine x_putf (ci := 0) (kf := 11) (ty0 := tyX0) (M1 := (((M.set (5) (.inr (0, [.ref (1), .ref (6), .ref (7), .ref (8), .ref (9), .ref (10), .int (nI t), .int (nI d), .int (nI r), .int (nI n), .long ((((rgs hP lP (b)).1) <<< ((nI 1).toInt64 &&& 63)) ||| ((((rgs hP lP (b)).2).toUInt64 >>> ((nI 63).toInt64.toUInt64 &&& Int64.toUInt64 63)).toInt64)), .long (((rgs hP lP (b)).2) <<< ((nI 1).toInt64 &&& 63))]))).set (7) (.inl (1, 256, .inr (.inl (stpH hs hP lP (b + 1)))))).set (8) (.inl (1, 256, .inr (.inl (stpL ls hP lP (b + 1))))))) dX0_makeSteps_126 rfl uX0 tyX0_ok nmX0 (by decide) fl_RX0_95 rfl rfl rfl rfl (gn (gn (gs ho) (by decide)) (by decide)) (Nat.le_of_ble_eq_true rfl) (ss2 (by decide) (by decide)) ?_
      refine x_iload dX0_makeSteps_129 rfl ?_
      refine x_if_eq (tgt := 154) dX0_makeSteps_131 (by decide) (fun _ => ?_) (fun h => False.elim (h rfl))
      refine x_iload dX0_makeSteps_154 rfl ?_
      refine x_iconst (y := nI 1) dX0_makeSteps_156 rfl ?_
      refine x_ishl dX0_makeSteps_157 ?_
      refine x_casti (y := nI (2 ^ (b + 1))) (sl_b hb8) ?_
      refine x_istore (ls' := [some (.ref (5)), some (.long (hP)), none, some (.long (lP)), none, some (.int (nI (2 ^ (b + 1)))), some (.int (nI 0))]) dX0_makeSteps_158 (by decide) rfl rfl ?_
      refine x_goto (tgt := 17) dX0_makeSteps_160 (by decide) ?_
      have hn : ¬ (rgs hP lP b).1 < 0 := lgc.mp h91
      have e1 : (rgs hP lP (b + 1)).1 = _ := if_neg hn
      have e2 : (rgs hP lP (b + 1)).2 = _ := if_neg hn
      rw [← e1, ← e2]
      refine st_fw ?_
      exact ih (b + 1) (by omega)
    · refine x_iconst (y := nI 1) dX0_makeSteps_94 rfl ?_
      refine x_goto (tgt := 99) dX0_makeSteps_95 (by decide) ?_
      refine x_istore (ls' := [some (.ref (5)), some (.long (hP)), none, some (.long (lP)), none, some (.int (nI (2 ^ b))), some (.int (nI 1))]) dX0_makeSteps_99 (by decide) rfl rfl ?_
      refine x_aload_n dX0_makeSteps_101 rfl rfl ?_
      refine x_aload_n dX0_makeSteps_102 rfl rfl ?_
      refine x_getf (ci := 0) (kf := 10) dX0_makeSteps_103 rfl uX0 (by decide) fl_RX0_91 (gn (gn (gs ho) (by decide)) (by decide)) rfl ?_
      refine x_iconst (y := nI 1) dX0_makeSteps_106 rfl ?_
      refine x_lshl dX0_makeSteps_107 ?_
      refine x_aload_n dX0_makeSteps_108 rfl rfl ?_
      refine x_getf (ci := 0) (kf := 11) dX0_makeSteps_109 rfl uX0 (by decide) fl_RX0_95 (gn (gn (gs ho) (by decide)) (by decide)) rfl ?_
      refine x_bipush (y := nI 63) dX0_makeSteps_112 rfl ?_
      refine x_lushr dX0_makeSteps_114 ?_
      refine x_lor dX0_makeSteps_115 ?_
      refine x_putf (ci := 0) (kf := 10) (ty0 := tyX0) (M1 := (((M.set (5) (.inr (0, [.ref (1), .ref (6), .ref (7), .ref (8), .ref (9), .ref (10), .int (nI t), .int (nI d), .int (nI r), .int (nI n), .long ((((rgs hP lP (b)).1) <<< ((nI 1).toInt64 &&& 63)) ||| ((((rgs hP lP (b)).2).toUInt64 >>> ((nI 63).toInt64.toUInt64 &&& Int64.toUInt64 63)).toInt64)), .long ((rgs hP lP (b)).2)]))).set (7) (.inl (1, 256, .inr (.inl (stpH hs hP lP (b + 1)))))).set (8) (.inl (1, 256, .inr (.inl (stpL ls hP lP (b + 1))))))) dX0_makeSteps_116 rfl uX0 tyX0_ok nmX0 (by decide) fl_RX0_91 rfl rfl rfl rfl (gn (gn (gs ho) (by decide)) (by decide)) (Nat.le_of_ble_eq_true rfl) (ss2 (by decide) (by decide)) ?_
      refine x_aload_n dX0_makeSteps_119 rfl rfl ?_
      refine x_dup dX0_makeSteps_120 rfl ?_
      refine x_getf (ci := 0) (kf := 11) dX0_makeSteps_121 rfl uX0 (by decide) fl_RX0_95 (gn (gn (gs ho) (by decide)) (by decide)) rfl ?_
      refine x_iconst (y := nI 1) dX0_makeSteps_124 rfl ?_
      refine x_lshl dX0_makeSteps_125 ?_
      refine x_putf (ci := 0) (kf := 11) (ty0 := tyX0) (M1 := (((M.set (5) (.inr (0, [.ref (1), .ref (6), .ref (7), .ref (8), .ref (9), .ref (10), .int (nI t), .int (nI d), .int (nI r), .int (nI n), .long ((((rgs hP lP (b)).1) <<< ((nI 1).toInt64 &&& 63)) ||| ((((rgs hP lP (b)).2).toUInt64 >>> ((nI 63).toInt64.toUInt64 &&& Int64.toUInt64 63)).toInt64)), .long (((rgs hP lP (b)).2) <<< ((nI 1).toInt64 &&& 63))]))).set (7) (.inl (1, 256, .inr (.inl (stpH hs hP lP (b + 1)))))).set (8) (.inl (1, 256, .inr (.inl (stpL ls hP lP (b + 1))))))) dX0_makeSteps_126 rfl uX0 tyX0_ok nmX0 (by decide) fl_RX0_95 rfl rfl rfl rfl (gn (gn (gs ho) (by decide)) (by decide)) (Nat.le_of_ble_eq_true rfl) (ss2 (by decide) (by decide)) ?_
      refine x_iload dX0_makeSteps_129 rfl ?_
      refine x_if_eq (tgt := 154) dX0_makeSteps_131 (by decide) (fun h => False.elim (absurd h (by decide))) (fun _ => ?_)
      refine x_aload_n dX0_makeSteps_134 rfl rfl ?_
      refine x_dup dX0_makeSteps_135 rfl ?_
      refine x_getf (ci := 0) (kf := 10) dX0_makeSteps_136 rfl uX0 (by decide) fl_RX0_91 (gn (gn (gs ho) (by decide)) (by decide)) rfl ?_
      refine x_lload_n dX0_makeSteps_139 rfl rfl ?_
      refine x_lxor dX0_makeSteps_140 ?_
      refine x_putf (ci := 0) (kf := 10) (ty0 := tyX0) (M1 := (((M.set (5) (.inr (0, [.ref (1), .ref (6), .ref (7), .ref (8), .ref (9), .ref (10), .int (nI t), .int (nI d), .int (nI r), .int (nI n), .long (((((rgs hP lP (b)).1) <<< ((nI 1).toInt64 &&& 63)) ||| ((((rgs hP lP (b)).2).toUInt64 >>> ((nI 63).toInt64.toUInt64 &&& Int64.toUInt64 63)).toInt64)) ^^^ (hP)), .long (((rgs hP lP (b)).2) <<< ((nI 1).toInt64 &&& 63))]))).set (7) (.inl (1, 256, .inr (.inl (stpH hs hP lP (b + 1)))))).set (8) (.inl (1, 256, .inr (.inl (stpL ls hP lP (b + 1))))))) dX0_makeSteps_141 rfl uX0 tyX0_ok nmX0 (by decide) fl_RX0_91 rfl rfl rfl rfl (gn (gn (gs ho) (by decide)) (by decide)) (Nat.le_of_ble_eq_true rfl) (ss2 (by decide) (by decide)) ?_
      refine x_aload_n dX0_makeSteps_144 rfl rfl ?_
      refine x_dup dX0_makeSteps_145 rfl ?_
      refine x_getf (ci := 0) (kf := 11) dX0_makeSteps_146 rfl uX0 (by decide) fl_RX0_95 (gn (gn (gs ho) (by decide)) (by decide)) rfl ?_
      refine x_lload_n dX0_makeSteps_149 rfl rfl ?_
      refine x_lxor dX0_makeSteps_150 ?_
      refine x_putf (ci := 0) (kf := 11) (ty0 := tyX0) (M1 := (((M.set (5) (.inr (0, [.ref (1), .ref (6), .ref (7), .ref (8), .ref (9), .ref (10), .int (nI t), .int (nI d), .int (nI r), .int (nI n), .long (((((rgs hP lP (b)).1) <<< ((nI 1).toInt64 &&& 63)) ||| ((((rgs hP lP (b)).2).toUInt64 >>> ((nI 63).toInt64.toUInt64 &&& Int64.toUInt64 63)).toInt64)) ^^^ (hP)), .long ((((rgs hP lP (b)).2) <<< ((nI 1).toInt64 &&& 63)) ^^^ (lP))]))).set (7) (.inl (1, 256, .inr (.inl (stpH hs hP lP (b + 1)))))).set (8) (.inl (1, 256, .inr (.inl (stpL ls hP lP (b + 1))))))) dX0_makeSteps_151 rfl uX0 tyX0_ok nmX0 (by decide) fl_RX0_95 rfl rfl rfl rfl (gn (gn (gs ho) (by decide)) (by decide)) (Nat.le_of_ble_eq_true rfl) (ss2 (by decide) (by decide)) ?_
      refine x_iload dX0_makeSteps_154 rfl ?_
      refine x_iconst (y := nI 1) dX0_makeSteps_156 rfl ?_
      refine x_ishl dX0_makeSteps_157 ?_
      refine x_casti (y := nI (2 ^ (b + 1))) (sl_b hb8) ?_
      refine x_istore (ls' := [some (.ref (5)), some (.long (hP)), none, some (.long (lP)), none, some (.int (nI (2 ^ (b + 1)))), some (.int (nI 1))]) dX0_makeSteps_158 (by decide) rfl rfl ?_
      refine x_goto (tgt := 17) dX0_makeSteps_160 (by decide) ?_
      have hn : (rgs hP lP b).1 < 0 := Classical.byContradiction (fun z => h91 (lgc.mpr z))
      have e1 : (rgs hP lP (b + 1)).1 = _ := if_pos hn
      have e2 : (rgs hP lP (b + 1)).2 = _ := if_pos hn
      rw [← e1, ← e2]
      refine st_fw ?_
      exact ih (b + 1) (by omega)
theorem c_makeSteps {X : Ev} {M : Hp} {t d r n : Nat} {hi lo : Int64} (ho : M[5]? = some (.inr (0, [.ref (1), .ref (6), .ref (7), .ref (8), .ref (9), .ref (10), .int (nI t), .int (nI d), .int (nI r), .int (nI n), .long (hi), .long (lo)]))) {pl : Nat → Int32} {pq : Nat → Bool} (hpl : M[6]? = some (.inl (0, 105, .inl (pl)))) (hpq : ∀ j, j < r → pl j = nI (pq j).toNat) (hr : r ≤ 104) {hs ls : Nat → Int64} (hh : M[7]? = some (.inl (1, 256, .inr (.inl (hs))))) (hl : M[8]? = some (.inl (1, 256, .inr (.inl (ls))))) : Cl X 1 jX0_makeSteps [.ref (5)] M none (((M.set 5 (.inr (0, [.ref (1), .ref (6), .ref (7), .ref (8), .ref (9), .ref (10), .int (nI t), .int (nI d), .int (nI r), .int (nI n), .long ((rgs (ldH pq r r) (ldL pq r r) (8)).1), .long ((rgs (ldH pq r r) (ldL pq r r) (8)).2)]))).set 7 (.inl (1, 256, .inr (.inl (stpH hs (ldH pq r r) (ldL pq r r) 8))))).set 8 (.inl (1, 256, .inr (.inl (stpL ls (ldH pq r r) (ldL pq r r) 8))))) := by
  refine Cl.of (ls := [some (.ref (5)), none, none, none, none, none, none]) (by decide) rfl (Nat.le_of_ble_eq_true rfl) ?_
  refine x_aload_n dX0_makeSteps_0 rfl rfl ?_
  refine x_callV (ci := 0) (as := []) dX0_makeSteps_1 mk_X0_loadPolynomial in_X0_loadPolynomial se_X0_loadPolynomial ml_RX0_88 rfl ho (by decide) rfl rfl (Nat.le_of_ble_eq_true rfl) (c_loadPolynomial ho hpl hpq hr) ?_
  refine x_aload_n dX0_makeSteps_4 rfl rfl ?_
  refine x_getf (ci := 0) (kf := 10) dX0_makeSteps_5 rfl uX0 (by decide) fl_RX0_91 (gs ho) rfl ?_
  refine x_lstore_n (ls' := [some (.ref (5)), some (.long (ldH pq r (r))), none, none, none, none, none]) dX0_makeSteps_8 rfl (by decide) rfl rfl ?_
  refine x_aload_n dX0_makeSteps_9 rfl rfl ?_
  refine x_getf (ci := 0) (kf := 11) dX0_makeSteps_10 rfl uX0 (by decide) fl_RX0_95 (gs ho) rfl ?_
  refine x_lstore_n (ls' := [some (.ref (5)), some (.long (ldH pq r (r))), none, some (.long (ldL pq r (r))), none, none, none]) dX0_makeSteps_13 rfl (by decide) rfl rfl ?_
  refine x_iconst (y := nI 1) dX0_makeSteps_14 rfl ?_
  refine x_istore (ls' := [some (.ref (5)), some (.long (ldH pq r (r))), none, some (.long (ldL pq r (r))), none, some (.int (nI 1)), none]) dX0_makeSteps_15 (by decide) rfl rfl ?_
  refine G.hp ((set_id (gn hh (by decide)) rfl).trans (set_id (gn (gn hl (by decide)) (by decide)) rfl)) (lp_steps2 (hP := ldH pq r r) (lP := ldL pq r r) ho hh hl (x_ret dX0_makeSteps_163 rfl) 8 0 rfl)
end
section
/-! CODE: THE GENERATOR -/
def xin (g : Nat → Bool) (fac k : Nat) : Nat → (Nat → Bool)
  | 0 => g
  | j + 1 => fun i => if i = k + j then (xin g fac k j i ^^ fac.testBit j) else xin g fac k j i
def mstep (g : Nat → Bool) (fac deg k : Nat) : Nat → Bool := if g k then xin (fun i => if i = k then false else g i) fac k (deg + 1) else g
def mdown (fac deg : Nat) : Nat → (Nat → Bool) → (Nat → Bool)
  | 0, g => g
  | c + 1, g => mdown fac deg c (mstep g fac deg c)
def kkd : Nat → Int32
  | 0 => -1
  | k + 1 => nI k
theorem kkd_1 {k : Nat} : nI k + Int32.ofInt (-1) = kkd k := by
  cases k with
  | zero => decide
  | succ k => exact nI_m
theorem kkd_r {r : Nat} : nI r = kkd (r + 1) := rfl
theorem xin_step {g : Nat → Bool} {fac k i : Nat} : upd (fun j => nI (xin g fac k i j).toNat) (k + i) (nI (xin g fac k i (k + i) ^^ fac.testBit i).toNat) = fun j => nI (xin g fac k (i + 1) j).toNat := by
  funext j
  by_cases h : j = k + i
  · subst h; rw [pk_us]; show _ = nI (if k + i = k + i then _ else _ : Bool).toNat; rw [if_pos rfl]
  · rw [pk_un h]; show _ = nI (if j = k + i then _ else _ : Bool).toNat; rw [if_neg h]
theorem clr_step {g : Nat → Bool} {k : Nat} : upd (fun j => nI (g j).toNat) k (nI 0) = fun j => nI ((fun i => if i = k then false else g i) j).toNat := by
  funext j
  by_cases h : j = k
  · subst h; rw [pk_us]; show _ = nI (if j = j then false else _ : Bool).toNat; rw [if_pos rfl]; rfl
  · rw [pk_un h]; show _ = nI (if j = k then false else _ : Bool).toNat; rw [if_neg h]
theorem fbit {fac i : Nat} (hf : fac < 2 ^ 31) (hi : i < 32) : (nI fac >>> (nI i &&& 31)) &&& nI 1 = nI (fac.testBit i).toNat := by
  rw [pk_shrN hf _ i (s_l i hi), pk_and _ 1 (by decide +kernel)]
  have e8 : (nI (fac / 2 ^ i)).toBitVec.toNat = (fac / 2 ^ i) % 2 ^ 32 := BitVec.toNat_ofNat _ 32
  rw [e8, Nat.toNat_testBit]
  congr 1
  omega
theorem lp_mby1 {X : Ev} {M0 M M' : Hp} {v : Option Value} {t d r n : Nat} {hi lo : Int64} (ho : M[5]? = some (.inr (0, [.ref (1), .ref (6), .ref (7), .ref (8), .ref (9), .ref (10), .int (nI t), .int (nI d), .int (nI r), .int (nI n), .long (hi), .long (lo)]))) {pl : Nat → Int32} (hpl : M[6]? = some (.inl (0, 105, .inl (pl)))) {fac deg : Nat} (hfac : fac < 2 ^ 31) (hdg : deg ≤ 13) (hrd : r + deg ≤ 104) {g : Nat → Bool} {k : Nat} (hkr : k ≤ r) (kc : G X 0 jX0_multiplyBy M0 59 [some (.ref (5)), some (.int (nI fac)), some (.int (nI deg)), some (.int (nI k)), some (.int (nI ((deg + 1))))] [] (M.set (6) (.inl (0, 105, .inl (fun j => nI ((xin g fac k ((deg + 1))) j).toNat)))) v M') : ∀ (zz i : Nat), i + zz = (deg + 1) → G X 0 jX0_multiplyBy M0 29 [some (.ref (5)), some (.int (nI fac)), some (.int (nI deg)), some (.int (nI k)), some (.int (nI (i)))] [] (M.set (6) (.inl (0, 105, .inl (fun j => nI ((xin g fac k (i)) j).toNat)))) v M' := by
  intro zz
  induction zz with
  | zero =>
    intro i hii
    have hii : i = (deg + 1) := by omega
    subst hii
    refine x_iload dX0_multiplyBy_29 rfl ?_
    refine x_iload_n dX0_multiplyBy_31 rfl rfl ?_
    refine x_icmp_gt (tgt := 59) dX0_multiplyBy_32 (by decide) (fun _ => ?_) (fun h => False.elim (h (nI_lt (by omega) (by omega))))
    exact kc
  | succ zz ih =>
    intro i hii
    refine x_iload dX0_multiplyBy_29 rfl ?_
    refine x_iload_n dX0_multiplyBy_31 rfl rfl ?_
    refine x_icmp_gt (tgt := 59) dX0_multiplyBy_32 (by decide) (fun h => False.elim (nI_nlt (by omega : i ≤ deg) (by omega) h)) (fun _ => ?_)
    refine x_aload_n dX0_multiplyBy_35 rfl rfl ?_
    refine x_getf (ci := 0) (kf := 1) dX0_multiplyBy_36 rfl uX0 (by decide) fl_RX0_9 (gn ho (by decide)) rfl ?_
    refine x_iload_n dX0_multiplyBy_39 rfl rfl ?_
    refine x_iload dX0_multiplyBy_40 rfl ?_
    refine x_iadd dX0_multiplyBy_42 ?_
    refine x_casti (y := nI (k + i)) (nI_add _ _) ?_
    refine x_dup2 dX0_multiplyBy_43 rfl rfl ?_
    refine x_ild (j := k + i) dX0_multiplyBy_44 (gs hpl) rfl (by omega) (by decide) ?_
    refine x_iload_n dX0_multiplyBy_45 rfl rfl ?_
    refine x_iload dX0_multiplyBy_46 rfl ?_
    refine x_ishr dX0_multiplyBy_48 ?_
    refine x_iconst (y := nI 1) dX0_multiplyBy_49 rfl ?_
    refine x_iand dX0_multiplyBy_50 ?_
    refine x_casti (y := nI (fac.testBit i).toNat) (fbit hfac (by omega)) ?_
    refine x_ixor dX0_multiplyBy_51 ?_
    refine x_casti (y := nI (xin g fac k i (k + i) ^^ fac.testBit i).toNat) bx2 ?_
    refine x_ist (j := k + i) (M1 := (M.set (6) (.inl (0, 105, .inl (fun j => nI (xin g fac k (i + 1) j).toNat))))) dX0_multiplyBy_52 (gs hpl) rfl (by omega) (by decide) (by rw [show upd (fun j => nI ((xin g fac k (i)) j).toNat) (k + i) (nI (xin g fac k i (k + i) ^^ fac.testBit i).toNat) = (fun j => nI (xin g fac k (i + 1) j).toNat) from xin_step] <;> exact (ss0)) ?_
    refine x_iinc (y := nI ((i) + 1)) (ls' := [some (.ref (5)), some (.int (nI fac)), some (.int (nI deg)), some (.int (nI k)), some (.int (nI ((i) + 1)))]) dX0_multiplyBy_53 (by decide) rfl rfl (ii_add _ 1) rfl ?_
    refine x_goto (tgt := 29) dX0_multiplyBy_56 (by decide) ?_
    exact ih (i + 1) (by omega)
theorem mb_fw {X : Ev} {d' : Nat} {M0 M M' : Hp} {v : Option Value} {pc : Nat} {a b c e j : Value} (k : G X d' jX0_multiplyBy M0 pc [some a, some b, some c, some e, none] [] M v M') : G X d' jX0_multiplyBy M0 pc [some a, some b, some c, some e, some j] [] M v M' := x_fewer (fun q w h => by match q, h with | 0, h => exact h | 1, h => exact h | 2, h => exact h | 3, h => exact h | 4, h => cases h | q + 5, h => cases h) k
theorem lp_mby2 {X : Ev} {M0 M M' : Hp} {v : Option Value} {t d r n : Nat} {hi lo : Int64} (ho : M[5]? = some (.inr (0, [.ref (1), .ref (6), .ref (7), .ref (8), .ref (9), .ref (10), .int (nI t), .int (nI d), .int (nI r), .int (nI n), .long (hi), .long (lo)]))) {pl : Nat → Int32} (hpl : M[6]? = some (.inl (0, 105, .inl (pl)))) {fac deg : Nat} (hfac : fac < 2 ^ 31) (hdg : deg ≤ 13) (hrd : r + deg ≤ 104) : ∀ (c : Nat) (g : Nat → Bool), c ≤ r + 1 → G X 0 jX0_multiplyBy M0 65 [some (.ref (5)), some (.int (nI fac)), some (.int (nI deg)), some (.int (kkd (0))), none] [] (M.set 6 (.inl (0, 105, .inl (fun j => nI ((mdown fac deg c g) j).toNat)))) v M' → G X 0 jX0_multiplyBy M0 5 [some (.ref (5)), some (.int (nI fac)), some (.int (nI deg)), some (.int (kkd (c))), none] [] (M.set 6 (.inl (0, 105, .inl (fun j => nI ((g) j).toNat)))) v M' := by
  intro c
  induction c with
  | zero =>
    intro g hc kc
    refine x_iload_n dX0_multiplyBy_5 rfl rfl ?_
    refine x_if_lt (tgt := 65) dX0_multiplyBy_6 (by decide) (fun _ => ?_) (fun h => False.elim (h (by decide)))
    exact kc
  | succ k ih =>
    intro g hc kc
    refine x_iload_n dX0_multiplyBy_5 rfl rfl ?_
    refine x_if_lt (tgt := 65) dX0_multiplyBy_6 (by decide) (fun h => False.elim (nI_pos (by omega) h)) (fun _ => ?_)
    refine x_aload_n dX0_multiplyBy_9 rfl rfl ?_
    refine x_getf (ci := 0) (kf := 1) dX0_multiplyBy_10 rfl uX0 (by decide) fl_RX0_9 (gn ho (by decide)) rfl ?_
    refine x_iload_n dX0_multiplyBy_13 rfl rfl ?_
    refine x_ild (j := k) dX0_multiplyBy_14 (gs hpl) rfl (by omega) (by decide) ?_
    refine x_iconst (y := nI 1) dX0_multiplyBy_15 rfl ?_
    refine x_icmp_ne (tgt := 59) dX0_multiplyBy_16 (by decide) (fun h16 => ?_) (fun h16 => ?_)
    · refine x_iinc (y := kkd k) (ls' := [some (.ref (5)), some (.int (nI fac)), some (.int (nI deg)), some (.int (kkd k)), none]) dX0_multiplyBy_59 (by decide) rfl rfl kkd_1 rfl ?_
      refine x_goto (tgt := 5) dX0_multiplyBy_62 (by decide) ?_
      have hz : mstep g fac deg k = g := by
        unfold mstep; rw [rq_0 h16]; rfl
      have hk2 := ih (mstep g fac deg k) (by omega) kc
      rw [hz] at hk2
      exact hk2
    · refine x_aload_n dX0_multiplyBy_19 rfl rfl ?_
      refine x_getf (ci := 0) (kf := 1) dX0_multiplyBy_20 rfl uX0 (by decide) fl_RX0_9 (gn ho (by decide)) rfl ?_
      refine x_iload_n dX0_multiplyBy_23 rfl rfl ?_
      refine x_iconst (y := nI 0) dX0_multiplyBy_24 rfl ?_
      refine x_ist (j := k) (M1 := (M.set (6) (.inl (0, 105, .inl (fun j => nI ((fun i => if i = k then false else g i) j).toNat))))) dX0_multiplyBy_25 (gs hpl) rfl (by omega) (by decide) (by rw [show upd (fun j => nI ((g) j).toNat) (k) (nI 0) = (fun j => nI ((fun i => if i = k then false else g i) j).toNat) from clr_step] <;> exact (ss0)) ?_
      refine x_iconst (y := nI 0) dX0_multiplyBy_26 rfl ?_
      refine x_istore (ls' := [some (.ref (5)), some (.int (nI fac)), some (.int (nI deg)), some (.int (nI k)), some (.int (nI 0))]) dX0_multiplyBy_27 (by decide) rfl rfl ?_
      refine lp_mby1 (g := (fun i => if i = k then false else g i)) ho hpl hfac hdg hrd (by omega) ?_ (deg + 1) 0 (by omega)
      refine x_iinc (y := kkd k) (ls' := [some (.ref (5)), some (.int (nI fac)), some (.int (nI deg)), some (.int (kkd k)), some (.int (nI (deg + 1)))]) dX0_multiplyBy_59 (by decide) rfl rfl kkd_1 rfl ?_
      refine x_goto (tgt := 5) dX0_multiplyBy_62 (by decide) ?_
      have hz : mstep g fac deg k = xin (fun i => if i = k then false else g i) fac k (deg + 1) := by
        unfold mstep; rw [rq_1 h16]; rfl
      rw [← hz]
      refine mb_fw ?_
      exact ih (mstep g fac deg k) (by omega) kc
theorem c_multiplyBy {X : Ev} {M : Hp} {t d r n : Nat} {hi lo : Int64} (ho : M[5]? = some (.inr (0, [.ref (1), .ref (6), .ref (7), .ref (8), .ref (9), .ref (10), .int (nI t), .int (nI d), .int (nI r), .int (nI n), .long (hi), .long (lo)]))) {g : Nat → Bool} (hpl : M[6]? = some (.inl (0, 105, .inl (fun j => nI ((g) j).toNat)))) {fac deg : Nat} (hfac : fac < 2 ^ 31) (hdg : deg ≤ 13) (hrd : r + deg ≤ 104) : Cl X 0 jX0_multiplyBy [.ref (5), .int (nI fac), .int (nI deg)] M none ((M.set 6 (.inl (0, 105, .inl (fun j => nI ((mdown fac deg (r + 1) g) j).toNat)))).set 5 (.inr (0, [.ref (1), .ref (6), .ref (7), .ref (8), .ref (9), .ref (10), .int (nI t), .int (nI d), .int (nI (r + deg)), .int (nI n), .long (hi), .long (lo)]))) := by
  refine Cl.of (ls := [some (.ref (5)), some (.int (nI fac)), some (.int (nI deg)), none, none]) (by decide) rfl (Nat.le_of_ble_eq_true rfl) ?_
  refine x_aload_n dX0_multiplyBy_0 rfl rfl ?_
  refine x_getf (ci := 0) (kf := 8) dX0_multiplyBy_1 rfl uX0 (by decide) fl_RX0_46 ho rfl ?_
  refine x_istore_n (ls' := [some (.ref (5)), some (.int (nI fac)), some (.int (nI deg)), some (.int (nI r)), none]) dX0_multiplyBy_4 rfl (by decide) rfl rfl ?_
  refine G.hp (set_id hpl rfl) (lp_mby2 ho hpl hfac hdg hrd (r + 1) g (Nat.le_refl _) ?_)
  refine x_aload_n dX0_multiplyBy_65 rfl rfl ?_
  refine x_dup dX0_multiplyBy_66 rfl ?_
  refine x_getf (ci := 0) (kf := 8) dX0_multiplyBy_67 rfl uX0 (by decide) fl_RX0_46 (gn ho (by decide)) rfl ?_
  refine x_iload_n dX0_multiplyBy_70 rfl rfl ?_
  refine x_iadd dX0_multiplyBy_71 ?_
  refine x_casti (y := nI (r + deg)) (nI_add _ _) ?_
  refine x_putf (ci := 0) (kf := 8) (ty0 := tyX0) (M1 := ((M.set (6) (.inl (0, 105, .inl (fun j => nI ((mdown fac deg (r + 1) g) j).toNat)))).set (5) (.inr (0, [.ref (1), .ref (6), .ref (7), .ref (8), .ref (9), .ref (10), .int (nI t), .int (nI d), .int (nI (r + deg)), .int (nI n), .long (hi), .long (lo)])))) dX0_multiplyBy_72 rfl uX0 tyX0_ok nmX0 (by decide) fl_RX0_46 rfl rfl rfl rfl (gn ho (by decide)) (Nat.le_of_ble_eq_true rfl) rfl ?_
  exact x_ret dX0_multiplyBy_75 rfl
end
