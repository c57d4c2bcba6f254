section
-- ===== PART A: goes FIRST, ahead of the names: the tables' words, and 'selects' of the private methods out of them =====
/-- a private method of a class that the tables say can be made, by its rows of tables_1 -/
def lw_okq (q : MethodName × Nat) : Prop := (q.1.cls ≠ "java/lang/invoke/MethodHandle" ∧ q.1.cls ≠ "java/lang/invoke/VarHandle") ∧ Cond.instantiable q.1.cls q.2 ∈ tables_1 ∧ Cond.privateMethod q.1 ∈ tables_1 ∧ Cond.instanceMethod q.1 ∈ tables_1
theorem lw_p0 : lw_okq (⟨"PageMender$Code", "makePolynomial", "()V"⟩, 12) := ⟨⟨by decide +kernel, by decide +kernel⟩, List.mem_of_getElem? (i := 54) (by decide +kernel), List.mem_of_getElem? (i := 254) (by decide +kernel), List.mem_of_getElem? (i := 255) (by decide +kernel)⟩
theorem lw_p1 : lw_okq (⟨"PageMender$Field", "multiplyByRoot", "(II)V"⟩, 5) := ⟨⟨by decide +kernel, by decide +kernel⟩, List.mem_of_getElem? (i := 22) (by decide +kernel), List.mem_of_getElem? (i := 269) (by decide +kernel), List.mem_of_getElem? (i := 270) (by decide +kernel)⟩
theorem lw_p2 : lw_okq (⟨"PageMender$Code", "multiplyBy", "(II)V"⟩, 12) := ⟨⟨by decide +kernel, by decide +kernel⟩, List.mem_of_getElem? (i := 54) (by decide +kernel), List.mem_of_getElem? (i := 279) (by decide +kernel), List.mem_of_getElem? (i := 280) (by decide +kernel)⟩
theorem lw_p3 : lw_okq (⟨"PageMender$Code", "makeSteps", "()V"⟩, 12) := ⟨⟨by decide +kernel, by decide +kernel⟩, List.mem_of_getElem? (i := 54) (by decide +kernel), List.mem_of_getElem? (i := 299) (by decide +kernel), List.mem_of_getElem? (i := 300) (by decide +kernel)⟩
theorem lw_p4 : lw_okq (⟨"PageMender$Code", "loadPolynomial", "()V"⟩, 12) := ⟨⟨by decide +kernel, by decide +kernel⟩, List.mem_of_getElem? (i := 54) (by decide +kernel), List.mem_of_getElem? (i := 303) (by decide +kernel), List.mem_of_getElem? (i := 304) (by decide +kernel)⟩
theorem lw_p5 : lw_okq (⟨"PageMender", "hasByte", "(I)Z"⟩, 10) := ⟨⟨by decide +kernel, by decide +kernel⟩, List.mem_of_getElem? (i := 14) (by decide +kernel), List.mem_of_getElem? (i := 364) (by decide +kernel), List.mem_of_getElem? (i := 365) (by decide +kernel)⟩
theorem lw_p6 : lw_okq (⟨"PageMender$Code", "takeData", "(LPageMender$Row;)V"⟩, 12) := ⟨⟨by decide +kernel, by decide +kernel⟩, List.mem_of_getElem? (i := 54) (by decide +kernel), List.mem_of_getElem? (i := 394) (by decide +kernel), List.mem_of_getElem? (i := 395) (by decide +kernel)⟩
theorem lw_p7 : lw_okq (⟨"PageMender$Code", "registerAt", "(I)I"⟩, 12) := ⟨⟨by decide +kernel, by decide +kernel⟩, List.mem_of_getElem? (i := 54) (by decide +kernel), List.mem_of_getElem? (i := 399) (by decide +kernel), List.mem_of_getElem? (i := 400) (by decide +kernel)⟩
theorem lw_p8 : lw_okq (⟨"PageMender", "hasPage", "(I)Z"⟩, 10) := ⟨⟨by decide +kernel, by decide +kernel⟩, List.mem_of_getElem? (i := 14) (by decide +kernel), List.mem_of_getElem? (i := 412) (by decide +kernel), List.mem_of_getElem? (i := 413) (by decide +kernel)⟩
theorem lw_p9 : lw_okq (⟨"PageMender", "hasBit", "(I)Z"⟩, 10) := ⟨⟨by decide +kernel, by decide +kernel⟩, List.mem_of_getElem? (i := 14) (by decide +kernel), List.mem_of_getElem? (i := 443) (by decide +kernel), List.mem_of_getElem? (i := 444) (by decide +kernel)⟩
theorem lw_p10 : lw_okq (⟨"PageMender$Mender", "isMended", "(LPageMender$Page;ZI)Z"⟩, 9) := ⟨⟨by decide +kernel, by decide +kernel⟩, List.mem_of_getElem? (i := 118) (by decide +kernel), List.mem_of_getElem? (i := 483) (by decide +kernel), List.mem_of_getElem? (i := 484) (by decide +kernel)⟩
theorem lw_p11 : lw_okq (⟨"PageMender$Mender", "becomesRight", "()Z"⟩, 9) := ⟨⟨by decide +kernel, by decide +kernel⟩, List.mem_of_getElem? (i := 118) (by decide +kernel), List.mem_of_getElem? (i := 488) (by decide +kernel), List.mem_of_getElem? (i := 489) (by decide +kernel)⟩
theorem lw_p12 : lw_okq (⟨"PageMender$Mender", "takeSyndromes", "()V"⟩, 9) := ⟨⟨by decide +kernel, by decide +kernel⟩, List.mem_of_getElem? (i := 118) (by decide +kernel), List.mem_of_getElem? (i := 497) (by decide +kernel), List.mem_of_getElem? (i := 498) (by decide +kernel)⟩
theorem lw_p13 : lw_okq (⟨"PageMender$Mender", "locate", "()I"⟩, 9) := ⟨⟨by decide +kernel, by decide +kernel⟩, List.mem_of_getElem? (i := 118) (by decide +kernel), List.mem_of_getElem? (i := 507) (by decide +kernel), List.mem_of_getElem? (i := 508) (by decide +kernel)⟩
theorem lw_p14 : lw_okq (⟨"PageMender$Mender", "missAt", "(II)I"⟩, 9) := ⟨⟨by decide +kernel, by decide +kernel⟩, List.mem_of_getElem? (i := 118) (by decide +kernel), List.mem_of_getElem? (i := 512) (by decide +kernel), List.mem_of_getElem? (i := 513) (by decide +kernel)⟩
theorem lw_p15 : lw_okq (⟨"PageMender$Mender", "addEarlier", "(II)V"⟩, 9) := ⟨⟨by decide +kernel, by decide +kernel⟩, List.mem_of_getElem? (i := 118) (by decide +kernel), List.mem_of_getElem? (i := 518) (by decide +kernel), List.mem_of_getElem? (i := 519) (by decide +kernel)⟩
def lw_privs_1 : List (MethodName × Nat) := [(⟨"PageMender$Code", "makePolynomial", "()V"⟩, 12), (⟨"PageMender$Field", "multiplyByRoot", "(II)V"⟩, 5), (⟨"PageMender$Code", "multiplyBy", "(II)V"⟩, 12), (⟨"PageMender$Code", "makeSteps", "()V"⟩, 12), (⟨"PageMender$Code", "loadPolynomial", "()V"⟩, 12), (⟨"PageMender", "hasByte", "(I)Z"⟩, 10), (⟨"PageMender$Code", "takeData", "(LPageMender$Row;)V"⟩, 12), (⟨"PageMender$Code", "registerAt", "(I)I"⟩, 12), (⟨"PageMender", "hasPage", "(I)Z"⟩, 10), (⟨"PageMender", "hasBit", "(I)Z"⟩, 10), (⟨"PageMender$Mender", "isMended", "(LPageMender$Page;ZI)Z"⟩, 9), (⟨"PageMender$Mender", "becomesRight", "()Z"⟩, 9), (⟨"PageMender$Mender", "takeSyndromes", "()V"⟩, 9), (⟨"PageMender$Mender", "locate", "()I"⟩, 9), (⟨"PageMender$Mender", "missAt", "(II)I"⟩, 9), (⟨"PageMender$Mender", "addEarlier", "(II)V"⟩, 9)]
theorem lw_r1 : ∀ q ∈ lw_privs_1, lw_okq q := List.forall_mem_cons.mpr ⟨lw_p0, List.forall_mem_cons.mpr ⟨lw_p1, List.forall_mem_cons.mpr ⟨lw_p2, List.forall_mem_cons.mpr ⟨lw_p3, List.forall_mem_cons.mpr ⟨lw_p4, List.forall_mem_cons.mpr ⟨lw_p5, List.forall_mem_cons.mpr ⟨lw_p6, List.forall_mem_cons.mpr ⟨lw_p7, List.forall_mem_cons.mpr ⟨lw_p8, List.forall_mem_cons.mpr ⟨lw_p9, List.forall_mem_cons.mpr ⟨lw_p10, List.forall_mem_cons.mpr ⟨lw_p11, List.forall_mem_cons.mpr ⟨lw_p12, List.forall_mem_cons.mpr ⟨lw_p13, List.forall_mem_cons.mpr ⟨lw_p14, List.forall_mem_cons.mpr ⟨lw_p15, fun _ h => absurd h List.not_mem_nil⟩⟩⟩⟩⟩⟩⟩⟩⟩⟩⟩⟩⟩⟩⟩⟩
theorem lw_p16 : lw_okq (⟨"PageMender$Mender", "findWrong", "(I)Z"⟩, 9) := ⟨⟨by decide +kernel, by decide +kernel⟩, List.mem_of_getElem? (i := 118) (by decide +kernel), List.mem_of_getElem? (i := 522) (by decide +kernel), List.mem_of_getElem? (i := 523) (by decide +kernel)⟩
theorem lw_p17 : lw_okq (⟨"PageMender$Mender", "locatorIsZero", "(I)Z"⟩, 9) := ⟨⟨by decide +kernel, by decide +kernel⟩, List.mem_of_getElem? (i := 118) (by decide +kernel), List.mem_of_getElem? (i := 527) (by decide +kernel), List.mem_of_getElem? (i := 528) (by decide +kernel)⟩
theorem lw_p18 : lw_okq (⟨"PageMender$Mender", "apartBesidesMarks", "(LPageMender$Page;)I"⟩, 9) := ⟨⟨by decide +kernel, by decide +kernel⟩, List.mem_of_getElem? (i := 118) (by decide +kernel), List.mem_of_getElem? (i := 533) (by decide +kernel), List.mem_of_getElem? (i := 534) (by decide +kernel)⟩
theorem lw_p19 : lw_okq (⟨"PageMender", "rewrite", "(LPageMender$Page;)I"⟩, 10) := ⟨⟨by decide +kernel, by decide +kernel⟩, List.mem_of_getElem? (i := 14) (by decide +kernel), List.mem_of_getElem? (i := 558) (by decide +kernel), List.mem_of_getElem? (i := 559) (by decide +kernel)⟩
theorem lw_p20 : lw_okq (⟨"PageMenderModel", "makeField", "(I)V"⟩, 27) := ⟨⟨by decide +kernel, by decide +kernel⟩, List.mem_of_getElem? (i := 575) (by decide +kernel), List.mem_of_getElem? (i := 672) (by decide +kernel), List.mem_of_getElem? (i := 673) (by decide +kernel)⟩
theorem lw_p21 : lw_okq (⟨"PageMenderModel", "makeGenerator", "(I)I"⟩, 27) := ⟨⟨by decide +kernel, by decide +kernel⟩, List.mem_of_getElem? (i := 575) (by decide +kernel), List.mem_of_getElem? (i := 682) (by decide +kernel), List.mem_of_getElem? (i := 683) (by decide +kernel)⟩
theorem lw_p22 : lw_okq (⟨"PageMenderModel", "generatorAt", "(II)I"⟩, 27) := ⟨⟨by decide +kernel, by decide +kernel⟩, List.mem_of_getElem? (i := 575) (by decide +kernel), List.mem_of_getElem? (i := 686) (by decide +kernel), List.mem_of_getElem? (i := 687) (by decide +kernel)⟩
theorem lw_p23 : lw_okq (⟨"PageMenderModel", "exponent", "(J)I"⟩, 27) := ⟨⟨by decide +kernel, by decide +kernel⟩, List.mem_of_getElem? (i := 575) (by decide +kernel), List.mem_of_getElem? (i := 690) (by decide +kernel), List.mem_of_getElem? (i := 691) (by decide +kernel)⟩
theorem lw_p24 : lw_okq (⟨"PageMenderModel", "minimalOf", "(I)I"⟩, 27) := ⟨⟨by decide +kernel, by decide +kernel⟩, List.mem_of_getElem? (i := 575) (by decide +kernel), List.mem_of_getElem? (i := 694) (by decide +kernel), List.mem_of_getElem? (i := 695) (by decide +kernel)⟩
theorem lw_p25 : lw_okq (⟨"PageMenderModel", "by", "(II)I"⟩, 27) := ⟨⟨by decide +kernel, by decide +kernel⟩, List.mem_of_getElem? (i := 575) (by decide +kernel), List.mem_of_getElem? (i := 698) (by decide +kernel), List.mem_of_getElem? (i := 699) (by decide +kernel)⟩
theorem lw_p26 : lw_okq (⟨"PageMenderModel", "isNumber", "(I)Z"⟩, 27) := ⟨⟨by decide +kernel, by decide +kernel⟩, List.mem_of_getElem? (i := 575) (by decide +kernel), List.mem_of_getElem? (i := 706) (by decide +kernel), List.mem_of_getElem? (i := 707) (by decide +kernel)⟩
theorem lw_p27 : lw_okq (⟨"PageMenderModel", "over", "(I)I"⟩, 27) := ⟨⟨by decide +kernel, by decide +kernel⟩, List.mem_of_getElem? (i := 575) (by decide +kernel), List.mem_of_getElem? (i := 714) (by decide +kernel), List.mem_of_getElem? (i := 715) (by decide +kernel)⟩
theorem lw_p28 : lw_okq (⟨"PageMenderModel", "complete", "()V"⟩, 27) := ⟨⟨by decide +kernel, by decide +kernel⟩, List.mem_of_getElem? (i := 575) (by decide +kernel), List.mem_of_getElem? (i := 753) (by decide +kernel), List.mem_of_getElem? (i := 754) (by decide +kernel)⟩
theorem lw_p29 : lw_okq (⟨"PageMenderModel", "program", "(I)I"⟩, 27) := ⟨⟨by decide +kernel, by decide +kernel⟩, List.mem_of_getElem? (i := 575) (by decide +kernel), List.mem_of_getElem? (i := 764) (by decide +kernel), List.mem_of_getElem? (i := 765) (by decide +kernel)⟩
theorem lw_p30 : lw_okq (⟨"PageMenderModel", "set", "(IZ)V"⟩, 27) := ⟨⟨by decide +kernel, by decide +kernel⟩, List.mem_of_getElem? (i := 575) (by decide +kernel), List.mem_of_getElem? (i := 768) (by decide +kernel), List.mem_of_getElem? (i := 769) (by decide +kernel)⟩
theorem lw_p31 : lw_okq (⟨"PageMenderModel", "wipe", "(I)V"⟩, 27) := ⟨⟨by decide +kernel, by decide +kernel⟩, List.mem_of_getElem? (i := 575) (by decide +kernel), List.mem_of_getElem? (i := 776) (by decide +kernel), List.mem_of_getElem? (i := 777) (by decide +kernel)⟩
def lw_privs_2 : List (MethodName × Nat) := [(⟨"PageMender$Mender", "findWrong", "(I)Z"⟩, 9), (⟨"PageMender$Mender", "locatorIsZero", "(I)Z"⟩, 9), (⟨"PageMender$Mender", "apartBesidesMarks", "(LPageMender$Page;)I"⟩, 9), (⟨"PageMender", "rewrite", "(LPageMender$Page;)I"⟩, 10), (⟨"PageMenderModel", "makeField", "(I)V"⟩, 27), (⟨"PageMenderModel", "makeGenerator", "(I)I"⟩, 27), (⟨"PageMenderModel", "generatorAt", "(II)I"⟩, 27), (⟨"PageMenderModel", "exponent", "(J)I"⟩, 27), (⟨"PageMenderModel", "minimalOf", "(I)I"⟩, 27), (⟨"PageMenderModel", "by", "(II)I"⟩, 27), (⟨"PageMenderModel", "isNumber", "(I)Z"⟩, 27), (⟨"PageMenderModel", "over", "(I)I"⟩, 27), (⟨"PageMenderModel", "complete", "()V"⟩, 27), (⟨"PageMenderModel", "program", "(I)I"⟩, 27), (⟨"PageMenderModel", "set", "(IZ)V"⟩, 27), (⟨"PageMenderModel", "wipe", "(I)V"⟩, 27)]
theorem lw_r2 : ∀ q ∈ lw_privs_2, lw_okq q := List.forall_mem_cons.mpr ⟨lw_p16, List.forall_mem_cons.mpr ⟨lw_p17, List.forall_mem_cons.mpr ⟨lw_p18, List.forall_mem_cons.mpr ⟨lw_p19, List.forall_mem_cons.mpr ⟨lw_p20, List.forall_mem_cons.mpr ⟨lw_p21, List.forall_mem_cons.mpr ⟨lw_p22, List.forall_mem_cons.mpr ⟨lw_p23, List.forall_mem_cons.mpr ⟨lw_p24, List.forall_mem_cons.mpr ⟨lw_p25, List.forall_mem_cons.mpr ⟨lw_p26, List.forall_mem_cons.mpr ⟨lw_p27, List.forall_mem_cons.mpr ⟨lw_p28, List.forall_mem_cons.mpr ⟨lw_p29, List.forall_mem_cons.mpr ⟨lw_p30, List.forall_mem_cons.mpr ⟨lw_p31, fun _ h => absurd h List.not_mem_nil⟩⟩⟩⟩⟩⟩⟩⟩⟩⟩⟩⟩⟩⟩⟩⟩
theorem lw_p32 : lw_okq (⟨"PageMenderModel", "isBit", "(II)Z"⟩, 27) := ⟨⟨by decide +kernel, by decide +kernel⟩, List.mem_of_getElem? (i := 575) (by decide +kernel), List.mem_of_getElem? (i := 784) (by decide +kernel), List.mem_of_getElem? (i := 785) (by decide +kernel)⟩
theorem lw_p33 : lw_okq (⟨"PageMenderModel", "countStuck", "(I)I"⟩, 27) := ⟨⟨by decide +kernel, by decide +kernel⟩, List.mem_of_getElem? (i := 575) (by decide +kernel), List.mem_of_getElem? (i := 792) (by decide +kernel), List.mem_of_getElem? (i := 793) (by decide +kernel)⟩
theorem lw_p34 : lw_okq (⟨"PageMenderModel", "countMarks", "(I)I"⟩, 27) := ⟨⟨by decide +kernel, by decide +kernel⟩, List.mem_of_getElem? (i := 575) (by decide +kernel), List.mem_of_getElem? (i := 800) (by decide +kernel), List.mem_of_getElem? (i := 801) (by decide +kernel)⟩
theorem lw_p35 : lw_okq (⟨"PageMenderModel", "mend", "(I)I"⟩, 27) := ⟨⟨by decide +kernel, by decide +kernel⟩, List.mem_of_getElem? (i := 575) (by decide +kernel), List.mem_of_getElem? (i := 812) (by decide +kernel), List.mem_of_getElem? (i := 813) (by decide +kernel)⟩
theorem lw_p36 : lw_okq (⟨"PageMenderModel", "isMended", "()Z"⟩, 27) := ⟨⟨by decide +kernel, by decide +kernel⟩, List.mem_of_getElem? (i := 575) (by decide +kernel), List.mem_of_getElem? (i := 816) (by decide +kernel), List.mem_of_getElem? (i := 817) (by decide +kernel)⟩
theorem lw_p37 : lw_okq (⟨"PageMenderModel", "isRight", "()Z"⟩, 27) := ⟨⟨by decide +kernel, by decide +kernel⟩, List.mem_of_getElem? (i := 575) (by decide +kernel), List.mem_of_getElem? (i := 820) (by decide +kernel), List.mem_of_getElem? (i := 821) (by decide +kernel)⟩
theorem lw_p38 : lw_okq (⟨"PageMenderModel", "solves", "(I)Z"⟩, 27) := ⟨⟨by decide +kernel, by decide +kernel⟩, List.mem_of_getElem? (i := 575) (by decide +kernel), List.mem_of_getElem? (i := 824) (by decide +kernel), List.mem_of_getElem? (i := 825) (by decide +kernel)⟩
theorem lw_p39 : lw_okq (⟨"PageMenderModel", "countZeros", "(I)I"⟩, 27) := ⟨⟨by decide +kernel, by decide +kernel⟩, List.mem_of_getElem? (i := 575) (by decide +kernel), List.mem_of_getElem? (i := 848) (by decide +kernel), List.mem_of_getElem? (i := 849) (by decide +kernel)⟩
def lw_privs_3 : List (MethodName × Nat) := [(⟨"PageMenderModel", "isBit", "(II)Z"⟩, 27), (⟨"PageMenderModel", "countStuck", "(I)I"⟩, 27), (⟨"PageMenderModel", "countMarks", "(I)I"⟩, 27), (⟨"PageMenderModel", "mend", "(I)I"⟩, 27), (⟨"PageMenderModel", "isMended", "()Z"⟩, 27), (⟨"PageMenderModel", "isRight", "()Z"⟩, 27), (⟨"PageMenderModel", "solves", "(I)Z"⟩, 27), (⟨"PageMenderModel", "countZeros", "(I)I"⟩, 27)]
theorem lw_r3 : ∀ q ∈ lw_privs_3, lw_okq q := List.forall_mem_cons.mpr ⟨lw_p32, List.forall_mem_cons.mpr ⟨lw_p33, List.forall_mem_cons.mpr ⟨lw_p34, List.forall_mem_cons.mpr ⟨lw_p35, List.forall_mem_cons.mpr ⟨lw_p36, List.forall_mem_cons.mpr ⟨lw_p37, List.forall_mem_cons.mpr ⟨lw_p38, List.forall_mem_cons.mpr ⟨lw_p39, fun _ h => absurd h List.not_mem_nil⟩⟩⟩⟩⟩⟩⟩⟩
def lw_privs : List (MethodName × Nat) := lw_privs_1 ++ (lw_privs_2 ++ (lw_privs_3))
def lw_tbl : List Cond := k2_sels lw_privs ++ tables_1
theorem lw_privs_ok : ∀ q ∈ lw_privs, lw_okq q := by
  show ∀ q ∈ lw_privs_1 ++ (lw_privs_2 ++ (lw_privs_3)), lw_okq q
  exact List.forall_mem_append.mpr ⟨lw_r1, List.forall_mem_append.mpr ⟨lw_r2, lw_r3⟩⟩
-- ===== end of PART A; then your names; then what follows =====
end
section
def RX0 : String := "PageMender$Code"
def TX0 : u_T := fun k => match k with
  | 0 => ("PageMender$Code", "field", "LPageMender$Field;", true)
  | 1 => ("PageMender$Code", "polynomial", "[I", true)
  | 2 => ("PageMender$Code", "highSteps", "[J", true)
  | 3 => ("PageMender$Code", "lowSteps", "[J", true)
  | 4 => ("PageMender$Code", "rest", "[I", true)
  | 5 => ("PageMender$Code", "ones", "LPageMender$Row;", true)
  | 6 => ("PageMender$Code", "t", "I", false)
  | 7 => ("PageMender$Code", "d", "I", false)
  | 8 => ("PageMender$Code", "\x72", "I", false)
  | 9 => ("PageMender$Code", "n", "I", false)
  | 10 => ("PageMender$Code", "high", "J", false)
  | _ => ("PageMender$Code", "low", "J", false)
def tyX0 : Nat → FieldType := fun k => match k with
  | 0 => .object "PageMender$Field"
  | 1 => .array .int
  | 2 => .array .long
  | 3 => .array .long
  | 4 => .array .int
  | 5 => .object "PageMender$Row"
  | 6 => .int
  | 7 => .int
  | 8 => .int
  | 9 => .int
  | 10 => .long
  | _ => .long
abbrev wsX00 : List Cond := u_ws RX0 TX0 12
theorem nmX0 : ∀ a, a < 12 → ∀ b, b < 12 → a ≠ b → (TX0 a).2.1 ≠ (TX0 b).2.1 := by decide +kernel
theorem tyX0_ok : ∀ k, k < 12 → parseFieldDescriptor (TX0 k).2.2.1 = some (tyX0 k) := by decide +kernel
abbrev cX0_init : ByteArray := prog_2_method_1_code
def yX0_init : MethodName := ⟨RX0, "<init>", "(LPageMender$Field;)V"⟩
abbrev cX0_become : ByteArray := prog_2_method_2_code
def yX0_become : MethodName := ⟨RX0, "become", "(II)V"⟩
abbrev cX0_makePolynomial : ByteArray := prog_2_method_3_code
def yX0_makePolynomial : MethodName := ⟨RX0, "makePolynomial", "()V"⟩
abbrev cX0_multiplyBy : ByteArray := prog_2_method_4_code
def yX0_multiplyBy : MethodName := ⟨RX0, "multiplyBy", "(II)V"⟩
abbrev cX0_makeSteps : ByteArray := prog_2_method_5_code
def yX0_makeSteps : MethodName := ⟨RX0, "makeSteps", "()V"⟩
abbrev cX0_loadPolynomial : ByteArray := prog_2_method_6_code
def yX0_loadPolynomial : MethodName := ⟨RX0, "loadPolynomial", "()V"⟩
abbrev cX0_takeData : ByteArray := prog_2_method_7_code
def yX0_takeData : MethodName := ⟨RX0, "takeData", "(LPageMender$Row;)V"⟩
abbrev cX0_registerAt : ByteArray := prog_2_method_8_code
def yX0_registerAt : MethodName := ⟨RX0, "registerAt", "(I)I"⟩
abbrev cX0_complete : ByteArray := prog_2_method_9_code
def yX0_complete : MethodName := ⟨RX0, "complete", "(LPageMender$Row;)V"⟩
abbrev cX0_divide : ByteArray := prog_2_method_10_code
def yX0_divide : MethodName := ⟨RX0, "divide", "(LPageMender$Row;)Z"⟩
abbrev cX0_restAt : ByteArray := prog_2_method_11_code
def yX0_restAt : MethodName := ⟨RX0, "restAt", "(I)I"⟩
def RX1 : String := "PageMender$Cosets"
def TX1 : u_T := fun k => match k with
  | _ => ("", "", "", false)
def tyX1 : Nat → FieldType := fun k => match k with
  | _ => .int
abbrev wsX10 : List Cond := u_ws RX1 TX1 0
theorem nmX1 : ∀ a, a < 0 → ∀ b, b < 0 → a ≠ b → (TX1 a).2.1 ≠ (TX1 b).2.1 := by decide +kernel
theorem tyX1_ok : ∀ k, k < 0 → parseFieldDescriptor (TX1 k).2.2.1 = some (tyX1 k) := by decide +kernel
abbrev cX1_reduced : ByteArray := prog_3_method_2_code
def yX1_reduced : MethodName := ⟨RX1, "reduced", "(II)I"⟩
abbrev cX1_doubled : ByteArray := prog_3_method_3_code
def yX1_doubled : MethodName := ⟨RX1, "doubled", "(II)I"⟩
abbrev cX1_size : ByteArray := prog_3_method_4_code
def yX1_size : MethodName := ⟨RX1, "size", "(II)I"⟩
abbrev cX1_least : ByteArray := prog_3_method_5_code
def yX1_least : MethodName := ⟨RX1, "least", "(II)I"⟩
abbrev cX1_isNew : ByteArray := prog_3_method_6_code
def yX1_isNew : MethodName := ⟨RX1, "isNew", "(II)Z"⟩
abbrev cX1_tailLength : ByteArray := prog_3_method_7_code
def yX1_tailLength : MethodName := ⟨RX1, "tailLength", "(II)I"⟩
def RX2 : String := "PageMender$Field"
def TX2 : u_T := fun k => match k with
  | 0 => ("PageMender$Field", "powers", "[I", true)
  | 1 => ("PageMender$Field", "logs", "[I", true)
  | 2 => ("PageMender$Field", "coefficients", "[I", true)
  | 3 => ("PageMender$Field", "m", "I", false)
  | _ => ("PageMender$Field", "order", "I", false)
def tyX2 : Nat → FieldType := fun k => match k with
  | 0 => .array .int
  | 1 => .array .int
  | 2 => .array .int
  | 3 => .int
  | _ => .int
abbrev wsX20 : List Cond := u_ws RX2 TX2 5
theorem nmX2 : ∀ a, a < 5 → ∀ b, b < 5 → a ≠ b → (TX2 a).2.1 ≠ (TX2 b).2.1 := by decide +kernel
theorem tyX2_ok : ∀ k, k < 5 → parseFieldDescriptor (TX2 k).2.2.1 = some (tyX2 k) := by decide +kernel
abbrev cX2_init : ByteArray := prog_4_method_1_code
def yX2_init : MethodName := ⟨RX2, "<init>", "()V"⟩
abbrev cX2_become : ByteArray := prog_4_method_2_code
def yX2_become : MethodName := ⟨RX2, "become", "(I)V"⟩
abbrev cX2_has : ByteArray := prog_4_method_3_code
def yX2_has : MethodName := ⟨RX2, "has", "(I)Z"⟩
abbrev cX2_powerOfA : ByteArray := prog_4_method_4_code
def yX2_powerOfA : MethodName := ⟨RX2, "powerOfA", "(I)I"⟩
abbrev cX2_product : ByteArray := prog_4_method_5_code
def yX2_product : MethodName := ⟨RX2, "product", "(II)I"⟩
abbrev cX2_reciprocal : ByteArray := prog_4_method_6_code
def yX2_reciprocal : MethodName := ⟨RX2, "reciprocal", "(I)I"⟩
abbrev cX2_minimalPolynomial : ByteArray := prog_4_method_7_code
def yX2_minimalPolynomial : MethodName := ⟨RX2, "minimalPolynomial", "(I)I"⟩
abbrev cX2_multiplyByRoot : ByteArray := prog_4_method_8_code
def yX2_multiplyByRoot : MethodName := ⟨RX2, "multiplyByRoot", "(II)V"⟩
def RX3 : String := "PageMender$Mender"
def TX3 : u_T := fun k => match k with
  | 0 => ("PageMender$Mender", "field", "LPageMender$Field;", true)
  | 1 => ("PageMender$Mender", "code", "LPageMender$Code;", true)
  | 2 => ("PageMender$Mender", "word", "LPageMender$Row;", true)
  | 3 => ("PageMender$Mender", "syndromes", "[I", true)
  | 4 => ("PageMender$Mender", "locator", "[I", true)
  | 5 => ("PageMender$Mender", "earlier", "[I", true)
  | 6 => ("PageMender$Mender", "spare", "[I", true)
  | 7 => ("PageMender$Mender", "logs", "[I", true)
  | _ => ("PageMender$Mender", "wrong", "[I", true)
def tyX3 : Nat → FieldType := fun k => match k with
  | 0 => .object "PageMender$Field"
  | 1 => .object "PageMender$Code"
  | 2 => .object "PageMender$Row"
  | 3 => .array .int
  | 4 => .array .int
  | 5 => .array .int
  | 6 => .array .int
  | 7 => .array .int
  | _ => .array .int
abbrev wsX30 : List Cond := u_ws RX3 TX3 9
theorem nmX3 : ∀ a, a < 9 → ∀ b, b < 9 → a ≠ b → (TX3 a).2.1 ≠ (TX3 b).2.1 := by decide +kernel
theorem tyX3_ok : ∀ k, k < 9 → parseFieldDescriptor (TX3 k).2.2.1 = some (tyX3 k) := by decide +kernel
abbrev cX3_init : ByteArray := prog_5_method_1_code
def yX3_init : MethodName := ⟨RX3, "<init>", "(LPageMender$Field;LPageMender$Code;)V"⟩
abbrev cX3_mend : ByteArray := prog_5_method_2_code
def yX3_mend : MethodName := ⟨RX3, "mend", "(LPageMender$Page;)I"⟩
abbrev cX3_isMended : ByteArray := prog_5_method_3_code
def yX3_isMended : MethodName := ⟨RX3, "isMended", "(LPageMender$Page;ZI)Z"⟩
abbrev cX3_apartBesidesMarks : ByteArray := prog_5_method_4_code
def yX3_apartBesidesMarks : MethodName := ⟨RX3, "apartBesidesMarks", "(LPageMender$Page;)I"⟩
abbrev cX3_becomesRight : ByteArray := prog_5_method_5_code
def yX3_becomesRight : MethodName := ⟨RX3, "becomesRight", "()Z"⟩
abbrev cX3_takeSyndromes : ByteArray := prog_5_method_6_code
def yX3_takeSyndromes : MethodName := ⟨RX3, "takeSyndromes", "()V"⟩
abbrev cX3_locate : ByteArray := prog_5_method_7_code
def yX3_locate : MethodName := ⟨RX3, "locate", "()I"⟩
abbrev cX3_missAt : ByteArray := prog_5_method_8_code
def yX3_missAt : MethodName := ⟨RX3, "missAt", "(II)I"⟩
abbrev cX3_addEarlier : ByteArray := prog_5_method_9_code
def yX3_addEarlier : MethodName := ⟨RX3, "addEarlier", "(II)V"⟩
abbrev cX3_findWrong : ByteArray := prog_5_method_10_code
def yX3_findWrong : MethodName := ⟨RX3, "findWrong", "(I)Z"⟩
abbrev cX3_locatorIsZero : ByteArray := prog_5_method_11_code
def yX3_locatorIsZero : MethodName := ⟨RX3, "locatorIsZero", "(I)Z"⟩
def RX4 : String := "PageMender$Page"
def TX4 : u_T := fun k => match k with
  | 0 => ("PageMender$Page", "bits", "LPageMender$Row;", true)
  | 1 => ("PageMender$Page", "stuck", "LPageMender$Row;", true)
  | 2 => ("PageMender$Page", "marks", "LPageMender$Row;", true)
  | _ => ("PageMender$Page", "wear", "I", false)
def tyX4 : Nat → FieldType := fun k => match k with
  | 0 => .object "PageMender$Row"
  | 1 => .object "PageMender$Row"
  | 2 => .object "PageMender$Row"
  | _ => .int
abbrev wsX40 : List Cond := u_ws RX4 TX4 4
theorem nmX4 : ∀ a, a < 4 → ∀ b, b < 4 → a ≠ b → (TX4 a).2.1 ≠ (TX4 b).2.1 := by decide +kernel
theorem tyX4_ok : ∀ k, k < 4 → parseFieldDescriptor (TX4 k).2.2.1 = some (tyX4 k) := by decide +kernel
abbrev cX4_init : ByteArray := prog_6_method_1_code
def yX4_init : MethodName := ⟨RX4, "<init>", "()V"⟩
abbrev cX4_renew : ByteArray := prog_6_method_2_code
def yX4_renew : MethodName := ⟨RX4, "renew", "(LPageMender$Row;)V"⟩
abbrev cX4_wipe : ByteArray := prog_6_method_3_code
def yX4_wipe : MethodName := ⟨RX4, "wipe", "(LPageMender$Row;)V"⟩
abbrev cX4_program : ByteArray := prog_6_method_4_code
def yX4_program : MethodName := ⟨RX4, "program", "(LPageMender$Row;)I"⟩
abbrev cX4_turn : ByteArray := prog_6_method_5_code
def yX4_turn : MethodName := ⟨RX4, "turn", "(I)I"⟩
abbrev cX4_hold : ByteArray := prog_6_method_6_code
def yX4_hold : MethodName := ⟨RX4, "hold", "(II)V"⟩
def RX5 : String := "PageMender$Row"
def TX5 : u_T := fun k => match k with
  | _ => ("PageMender$Row", "longs", "[J", true)
def tyX5 : Nat → FieldType := fun k => match k with
  | _ => .array .long
abbrev wsX50 : List Cond := u_ws RX5 TX5 1
theorem nmX5 : ∀ a, a < 1 → ∀ b, b < 1 → a ≠ b → (TX5 a).2.1 ≠ (TX5 b).2.1 := by decide +kernel
theorem tyX5_ok : ∀ k, k < 1 → parseFieldDescriptor (TX5 k).2.2.1 = some (tyX5 k) := by decide +kernel
abbrev cX5_init : ByteArray := prog_7_method_1_code
def yX5_init : MethodName := ⟨RX5, "<init>", "()V"⟩
abbrev cX5_at : ByteArray := prog_7_method_2_code
def yX5_at : MethodName := ⟨RX5, "at", "(I)I"⟩
abbrev cX5_set : ByteArray := prog_7_method_3_code
def yX5_set : MethodName := ⟨RX5, "set", "(II)V"⟩
abbrev cX5_byteAt : ByteArray := prog_7_method_4_code
def yX5_byteAt : MethodName := ⟨RX5, "byteAt", "(I)I"⟩
abbrev cX5_setByte : ByteArray := prog_7_method_5_code
def yX5_setByte : MethodName := ⟨RX5, "setByte", "(II)V"⟩
abbrev cX5_ones : ByteArray := prog_7_method_6_code
def yX5_ones : MethodName := ⟨RX5, "ones", "()I"⟩
abbrev cX5_apart : ByteArray := prog_7_method_7_code
def yX5_apart : MethodName := ⟨RX5, "apart", "(LPageMender$Row;)I"⟩
abbrev cX5_clear : ByteArray := prog_7_method_8_code
def yX5_clear : MethodName := ⟨RX5, "clear", "()V"⟩
abbrev cX5_become : ByteArray := prog_7_method_9_code
def yX5_become : MethodName := ⟨RX5, "become", "(LPageMender$Row;)V"⟩
abbrev cX5_becomeDifference : ByteArray := prog_7_method_10_code
def yX5_becomeDifference : MethodName := ⟨RX5, "becomeDifference", "(LPageMender$Row;LPageMender$Row;)V"⟩
abbrev cX5_becomeFirstOnes : ByteArray := prog_7_method_11_code
def yX5_becomeFirstOnes : MethodName := ⟨RX5, "becomeFirstOnes", "(I)V"⟩
def RX6 : String := "PageMender"
def TX6 : u_T := fun k => match k with
  | 0 => ("PageMender", "field", "LPageMender$Field;", true)
  | 1 => ("PageMender", "code", "LPageMender$Code;", true)
  | 2 => ("PageMender", "mender", "LPageMender$Mender;", true)
  | 3 => ("PageMender", "pages", "[LPageMender$Page;", true)
  | 4 => ("PageMender", "buffer", "LPageMender$Row;", true)
  | 5 => ("PageMender", "turnedBits", "LPageMender$Row;", true)
  | 6 => ("PageMender", "opened", "Z", false)
  | 7 => ("PageMender", "readsMended", "I", false)
  | 8 => ("PageMender", "readsRight", "I", false)
  | _ => ("PageMender", "readsLost", "I", false)
def tyX6 : Nat → FieldType := fun k => match k with
  | 0 => .object "PageMender$Field"
  | 1 => .object "PageMender$Code"
  | 2 => .object "PageMender$Mender"
  | 3 => .array (.object "PageMender$Page")
  | 4 => .object "PageMender$Row"
  | 5 => .object "PageMender$Row"
  | 6 => .boolean
  | 7 => .int
  | 8 => .int
  | _ => .int
abbrev wsX60 : List Cond := u_ws RX6 TX6 10
theorem nmX6 : ∀ a, a < 10 → ∀ b, b < 10 → a ≠ b → (TX6 a).2.1 ≠ (TX6 b).2.1 := by decide +kernel
theorem tyX6_ok : ∀ k, k < 10 → parseFieldDescriptor (TX6 k).2.2.1 = some (tyX6 k) := by decide +kernel
abbrev cX6_init : ByteArray := prog_1_method_1_code
def yX6_init : MethodName := ⟨RX6, "<init>", "()V"⟩
abbrev cX6_open : ByteArray := prog_1_method_2_code
def yX6_open : MethodName := ⟨RX6, "open", "(III)I"⟩
abbrev cX6_times : ByteArray := prog_1_method_3_code
def yX6_times : MethodName := ⟨RX6, "times", "(II)I"⟩
abbrev cX6_inverse : ByteArray := prog_1_method_4_code
def yX6_inverse : MethodName := ⟨RX6, "inverse", "(I)I"⟩
abbrev cX6_power : ByteArray := prog_1_method_5_code
def yX6_power : MethodName := ⟨RX6, "power", "(I)I"⟩
abbrev cX6_log : ByteArray := prog_1_method_6_code
def yX6_log : MethodName := ⟨RX6, "log", "(I)I"⟩
abbrev cX6_minimal : ByteArray := prog_1_method_7_code
def yX6_minimal : MethodName := ⟨RX6, "minimal", "(I)I"⟩
abbrev cX6_generator : ByteArray := prog_1_method_8_code
def yX6_generator : MethodName := ⟨RX6, "generator", "(I)I"⟩
abbrev cX6_put : ByteArray := prog_1_method_9_code
def yX6_put : MethodName := ⟨RX6, "put", "(II)I"⟩
abbrev cX6_fill : ByteArray := prog_1_method_10_code
def yX6_fill : MethodName := ⟨RX6, "fill", "(IJ)I"⟩
abbrev cX6_get : ByteArray := prog_1_method_11_code
def yX6_get : MethodName := ⟨RX6, "get", "(I)I"⟩
abbrev cX6_tail : ByteArray := prog_1_method_12_code
def yX6_tail : MethodName := ⟨RX6, "tail", "(I)I"⟩
abbrev cX6_write : ByteArray := prog_1_method_13_code
def yX6_write : MethodName := ⟨RX6, "write", "(I)I"⟩
abbrev cX6_erase : ByteArray := prog_1_method_14_code
def yX6_erase : MethodName := ⟨RX6, "erase", "(I)I"⟩
abbrev cX6_flip : ByteArray := prog_1_method_15_code
def yX6_flip : MethodName := ⟨RX6, "flip", "(II)I"⟩
abbrev cX6_stick : ByteArray := prog_1_method_16_code
def yX6_stick : MethodName := ⟨RX6, "stick", "(III)I"⟩
abbrev cX6_mark : ByteArray := prog_1_method_17_code
def yX6_mark : MethodName := ⟨RX6, "mark", "(IIZ)I"⟩
abbrev cX6_bit : ByteArray := prog_1_method_18_code
def yX6_bit : MethodName := ⟨RX6, "bit", "(II)I"⟩
abbrev cX6_read : ByteArray := prog_1_method_19_code
def yX6_read : MethodName := ⟨RX6, "read", "(I)I"⟩
abbrev cX6_turned : ByteArray := prog_1_method_20_code
def yX6_turned : MethodName := ⟨RX6, "turned", "(I)I"⟩
abbrev cX6_syndrome : ByteArray := prog_1_method_21_code
def yX6_syndrome : MethodName := ⟨RX6, "syndrome", "(II)I"⟩
abbrev cX6_copy : ByteArray := prog_1_method_22_code
def yX6_copy : MethodName := ⟨RX6, "copy", "(II)I"⟩
abbrev cX6_refresh : ByteArray := prog_1_method_23_code
def yX6_refresh : MethodName := ⟨RX6, "refresh", "(I)I"⟩
abbrev cX6_told : ByteArray := prog_1_method_24_code
def yX6_told : MethodName := ⟨RX6, "told", "(II)I"⟩
abbrev cX6_about : ByteArray := prog_1_method_25_code
def yX6_about : MethodName := ⟨RX6, "about", "(I)I"⟩
abbrev cX6_hasByte : ByteArray := prog_1_method_26_code
def yX6_hasByte : MethodName := ⟨RX6, "hasByte", "(I)Z"⟩
abbrev cX6_hasPage : ByteArray := prog_1_method_27_code
def yX6_hasPage : MethodName := ⟨RX6, "hasPage", "(I)Z"⟩
abbrev cX6_hasBit : ByteArray := prog_1_method_28_code
def yX6_hasBit : MethodName := ⟨RX6, "hasBit", "(I)Z"⟩
abbrev cX6_rewrite : ByteArray := prog_1_method_29_code
def yX6_rewrite : MethodName := ⟨RX6, "rewrite", "(LPageMender$Page;)I"⟩
def RX7 : String := "PageMenderModel"
def TX7 : u_T := fun k => match k with
  | 0 => ("PageMenderModel", "isOpen", "Z", false)
  | 1 => ("PageMenderModel", "m", "I", false)
  | 2 => ("PageMenderModel", "t", "I", false)
  | 3 => ("PageMenderModel", "d", "I", false)
  | 4 => ("PageMenderModel", "\x72", "I", false)
  | 5 => ("PageMenderModel", "n", "I", false)
  | 6 => ("PageMenderModel", "all", "I", false)
  | 7 => ("PageMenderModel", "powers", "[I", true)
  | 8 => ("PageMenderModel", "logs", "[I", true)
  | 9 => ("PageMenderModel", "generator", "[I", true)
  | 10 => ("PageMenderModel", "buffer", "[I", true)
  | 11 => ("PageMenderModel", "bits", "[Z", true)
  | 12 => ("PageMenderModel", "stuck", "[I", true)
  | 13 => ("PageMenderModel", "marks", "[Z", true)
  | 14 => ("PageMenderModel", "wear", "[I", true)
  | 15 => ("PageMenderModel", "turned", "[I", true)
  | 16 => ("PageMenderModel", "turns", "I", false)
  | 17 => ("PageMenderModel", "mended", "I", false)
  | 18 => ("PageMenderModel", "right", "I", false)
  | 19 => ("PageMenderModel", "lost", "I", false)
  | 20 => ("PageMenderModel", "made", "[I", true)
  | 21 => ("PageMenderModel", "spare", "[I", true)
  | 22 => ("PageMenderModel", "word", "[Z", true)
  | 23 => ("PageMenderModel", "left", "[I", true)
  | 24 => ("PageMenderModel", "syndromes", "[I", true)
  | 25 => ("PageMenderModel", "lines", "[I", true)
  | _ => ("PageMenderModel", "locator", "[I", true)
def tyX7 : Nat → FieldType := fun k => match k with
  | 0 => .boolean
  | 1 => .int
  | 2 => .int
  | 3 => .int
  | 4 => .int
  | 5 => .int
  | 6 => .int
  | 7 => .array .int
  | 8 => .array .int
  | 9 => .array .int
  | 10 => .array .int
  | 11 => .array .boolean
  | 12 => .array .int
  | 13 => .array .boolean
  | 14 => .array .int
  | 15 => .array .int
  | 16 => .int
  | 17 => .int
  | 18 => .int
  | 19 => .int
  | 20 => .array .int
  | 21 => .array .int
  | 22 => .array .boolean
  | 23 => .array .int
  | 24 => .array .int
  | 25 => .array .int
  | _ => .array .int
abbrev wsX70 : List Cond := u_ws RX7 TX7 27
theorem nmX7 : ∀ a, a < 27 → ∀ b, b < 27 → a ≠ b → (TX7 a).2.1 ≠ (TX7 b).2.1 := by decide +kernel
theorem tyX7_ok : ∀ k, k < 27 → parseFieldDescriptor (TX7 k).2.2.1 = some (tyX7 k) := by decide +kernel
abbrev cX7_init : ByteArray := prog_9_method_1_code
def yX7_init : MethodName := ⟨RX7, "<init>", "()V"⟩
abbrev cX7_within : ByteArray := prog_9_method_3_code
def yX7_within : MethodName := ⟨RX7, "within", "(III)Z"⟩
abbrev cX7_polynomial : ByteArray := prog_9_method_4_code
def yX7_polynomial : MethodName := ⟨RX7, "polynomial", "(I)I"⟩
abbrev cX7_product : ByteArray := prog_9_method_5_code
def yX7_product : MethodName := ⟨RX7, "product", "(III)I"⟩
abbrev cX7_by : ByteArray := prog_9_method_6_code
def yX7_by : MethodName := ⟨RX7, "by", "(II)I"⟩
abbrev cX7_exponent : ByteArray := prog_9_method_7_code
def yX7_exponent : MethodName := ⟨RX7, "exponent", "(J)I"⟩
abbrev cX7_over : ByteArray := prog_9_method_8_code
def yX7_over : MethodName := ⟨RX7, "over", "(I)I"⟩
abbrev cX7_isNumber : ByteArray := prog_9_method_9_code
def yX7_isNumber : MethodName := ⟨RX7, "isNumber", "(I)Z"⟩
abbrev cX7_minimalOf : ByteArray := prog_9_method_10_code
def yX7_minimalOf : MethodName := ⟨RX7, "minimalOf", "(I)I"⟩
abbrev cX7_generatorAt : ByteArray := prog_9_method_11_code
def yX7_generatorAt : MethodName := ⟨RX7, "generatorAt", "(II)I"⟩
abbrev cX7_makeGenerator : ByteArray := prog_9_method_12_code
def yX7_makeGenerator : MethodName := ⟨RX7, "makeGenerator", "(I)I"⟩
abbrev cX7_makeField : ByteArray := prog_9_method_13_code
def yX7_makeField : MethodName := ⟨RX7, "makeField", "(I)V"⟩
abbrev cX7_open : ByteArray := prog_9_method_14_code
def yX7_open : MethodName := ⟨RX7, "open", "(III)I"⟩
abbrev cX7_times : ByteArray := prog_9_method_15_code
def yX7_times : MethodName := ⟨RX7, "times", "(II)I"⟩
abbrev cX7_inverse : ByteArray := prog_9_method_16_code
def yX7_inverse : MethodName := ⟨RX7, "inverse", "(I)I"⟩
abbrev cX7_power : ByteArray := prog_9_method_17_code
def yX7_power : MethodName := ⟨RX7, "power", "(I)I"⟩
abbrev cX7_log : ByteArray := prog_9_method_18_code
def yX7_log : MethodName := ⟨RX7, "log", "(I)I"⟩
abbrev cX7_minimal : ByteArray := prog_9_method_19_code
def yX7_minimal : MethodName := ⟨RX7, "minimal", "(I)I"⟩
abbrev cX7_generator : ByteArray := prog_9_method_20_code
def yX7_generator : MethodName := ⟨RX7, "generator", "(I)I"⟩
abbrev cX7_put : ByteArray := prog_9_method_21_code
def yX7_put : MethodName := ⟨RX7, "put", "(II)I"⟩
abbrev cX7_fill : ByteArray := prog_9_method_22_code
def yX7_fill : MethodName := ⟨RX7, "fill", "(IJ)I"⟩
abbrev cX7_get : ByteArray := prog_9_method_23_code
def yX7_get : MethodName := ⟨RX7, "get", "(I)I"⟩
abbrev cX7_complete : ByteArray := prog_9_method_24_code
def yX7_complete : MethodName := ⟨RX7, "complete", "()V"⟩
abbrev cX7_tail : ByteArray := prog_9_method_25_code
def yX7_tail : MethodName := ⟨RX7, "tail", "(I)I"⟩
abbrev cX7_isPage : ByteArray := prog_9_method_26_code
def yX7_isPage : MethodName := ⟨RX7, "isPage", "(I)Z"⟩
abbrev cX7_isBit : ByteArray := prog_9_method_27_code
def yX7_isBit : MethodName := ⟨RX7, "isBit", "(II)Z"⟩
abbrev cX7_set : ByteArray := prog_9_method_28_code
def yX7_set : MethodName := ⟨RX7, "set", "(IZ)V"⟩
abbrev cX7_program : ByteArray := prog_9_method_29_code
def yX7_program : MethodName := ⟨RX7, "program", "(I)I"⟩
abbrev cX7_wipe : ByteArray := prog_9_method_30_code
def yX7_wipe : MethodName := ⟨RX7, "wipe", "(I)V"⟩
abbrev cX7_write : ByteArray := prog_9_method_31_code
def yX7_write : MethodName := ⟨RX7, "write", "(I)I"⟩
abbrev cX7_erase : ByteArray := prog_9_method_32_code
def yX7_erase : MethodName := ⟨RX7, "erase", "(I)I"⟩
abbrev cX7_flip : ByteArray := prog_9_method_33_code
def yX7_flip : MethodName := ⟨RX7, "flip", "(II)I"⟩
abbrev cX7_countStuck : ByteArray := prog_9_method_34_code
def yX7_countStuck : MethodName := ⟨RX7, "countStuck", "(I)I"⟩
abbrev cX7_countMarks : ByteArray := prog_9_method_35_code
def yX7_countMarks : MethodName := ⟨RX7, "countMarks", "(I)I"⟩
abbrev cX7_stick : ByteArray := prog_9_method_36_code
def yX7_stick : MethodName := ⟨RX7, "stick", "(III)I"⟩
abbrev cX7_mark : ByteArray := prog_9_method_37_code
def yX7_mark : MethodName := ⟨RX7, "mark", "(IIZ)I"⟩
abbrev cX7_bit : ByteArray := prog_9_method_38_code
def yX7_bit : MethodName := ⟨RX7, "bit", "(II)I"⟩
abbrev cX7_isRight : ByteArray := prog_9_method_39_code
def yX7_isRight : MethodName := ⟨RX7, "isRight", "()Z"⟩
abbrev cX7_solves : ByteArray := prog_9_method_40_code
def yX7_solves : MethodName := ⟨RX7, "solves", "(I)Z"⟩
abbrev cX7_isMended : ByteArray := prog_9_method_41_code
def yX7_isMended : MethodName := ⟨RX7, "isMended", "()Z"⟩
abbrev cX7_mend : ByteArray := prog_9_method_42_code
def yX7_mend : MethodName := ⟨RX7, "mend", "(I)I"⟩
abbrev cX7_read : ByteArray := prog_9_method_43_code
def yX7_read : MethodName := ⟨RX7, "read", "(I)I"⟩
abbrev cX7_turned : ByteArray := prog_9_method_44_code
def yX7_turned : MethodName := ⟨RX7, "turned", "(I)I"⟩
abbrev cX7_syndrome : ByteArray := prog_9_method_45_code
def yX7_syndrome : MethodName := ⟨RX7, "syndrome", "(II)I"⟩
abbrev cX7_copy : ByteArray := prog_9_method_46_code
def yX7_copy : MethodName := ⟨RX7, "copy", "(II)I"⟩
abbrev cX7_refresh : ByteArray := prog_9_method_47_code
def yX7_refresh : MethodName := ⟨RX7, "refresh", "(I)I"⟩
abbrev cX7_countZeros : ByteArray := prog_9_method_48_code
def yX7_countZeros : MethodName := ⟨RX7, "countZeros", "(I)I"⟩
abbrev cX7_told : ByteArray := prog_9_method_49_code
def yX7_told : MethodName := ⟨RX7, "told", "(II)I"⟩
abbrev cX7_about : ByteArray := prog_9_method_50_code
def yX7_about : MethodName := ⟨RX7, "about", "(I)I"⟩
def RJ13 : String := "java/lang/Long"
def TJ13 : u_T := fun k => match k with
  | _ => ("", "", "", false)
def tyJ13 : Nat → FieldType := fun k => match k with
  | _ => .int
abbrev wsJ130 : List Cond := u_ws RJ13 TJ13 0
theorem nmJ13 : ∀ a, a < 0 → ∀ b, b < 0 → a ≠ b → (TJ13 a).2.1 ≠ (TJ13 b).2.1 := by decide +kernel
theorem tyJ13_ok : ∀ k, k < 0 → parseFieldDescriptor (TJ13 k).2.2.1 = some (tyJ13 k) := by decide +kernel
abbrev cJ13_bitCount_95d88 : ByteArray := prog_10_method_50_code
def yJ13_bitCount_95d88 : MethodName := ⟨RJ13, "bitCount", "(J)I"⟩
def RJ9 : String := "java/lang/Math"
def TJ9 : u_T := fun k => match k with
  | _ => ("", "", "", false)
def tyJ9 : Nat → FieldType := fun k => match k with
  | _ => .int
abbrev wsJ90 : List Cond := u_ws RJ9 TJ9 0
theorem nmJ9 : ∀ a, a < 0 → ∀ b, b < 0 → a ≠ b → (TJ9 a).2.1 ≠ (TJ9 b).2.1 := by decide +kernel
theorem tyJ9_ok : ∀ k, k < 0 → parseFieldDescriptor (TJ9 k).2.2.1 = some (tyJ9 k) := by decide +kernel
abbrev cJ9_floorMod_7cf53 : ByteArray := prog_11_method_50_code
def yJ9_floorMod_7cf53 : MethodName := ⟨RJ9, "floorMod", "(II)I"⟩
abbrev cJ9_min_7cf53 : ByteArray := prog_11_method_69_code
def yJ9_min_7cf53 : MethodName := ⟨RJ9, "min", "(II)I"⟩
def RJ10 : String := "java/lang/System"
def TJ10 : u_T := fun k => match k with
  | _ => ("", "", "", false)
def tyJ10 : Nat → FieldType := fun k => match k with
  | _ => .int
abbrev wsJ100 : List Cond := u_ws RJ10 TJ10 0
theorem nmJ10 : ∀ a, a < 0 → ∀ b, b < 0 → a ≠ b → (TJ10 a).2.1 ≠ (TJ10 b).2.1 := by decide +kernel
theorem tyJ10_ok : ∀ k, k < 0 → parseFieldDescriptor (TJ10 k).2.2.1 = some (tyJ10 k) := by decide +kernel
def RJ7 : String := "java/util/Arrays"
def TJ7 : u_T := fun k => match k with
  | _ => ("", "", "", false)
def tyJ7 : Nat → FieldType := fun k => match k with
  | _ => .int
abbrev wsJ70 : List Cond := u_ws RJ7 TJ7 0
theorem nmJ7 : ∀ a, a < 0 → ∀ b, b < 0 → a ≠ b → (TJ7 a).2.1 ≠ (TJ7 b).2.1 := by decide +kernel
theorem tyJ7_ok : ∀ k, k < 0 → parseFieldDescriptor (TJ7 k).2.2.1 = some (tyJ7 k) := by decide +kernel
abbrev cJ7_fill_d0a16 : ByteArray := prog_13_method_101_code
def yJ7_fill_d0a16 : MethodName := ⟨RJ7, "fill", "([JJ)V"⟩
abbrev cJ7_fill_53178 : ByteArray := prog_13_method_103_code
def yJ7_fill_53178 : MethodName := ⟨RJ7, "fill", "([II)V"⟩
def RL : String := "PageMenderLaw"
abbrev cL_law : ByteArray := code
def yL_law : MethodName := ⟨RL, "law", "([I)Z"⟩
end
section
/-! A logic over places: a heap is a list of cells, a reference is a place in it (the address is the base and the place). G: the code of a method from a pc on; Cl: a method. -/
abbrev Ev : Type := Launch × va_G × (Nat → ClassId) × Nat × Nat × Nat × Nat × (Nat → Int32)
abbrev ev_l (X : Ev) : Launch := X.1
abbrev ev_D (X : Ev) : va_G := X.2.1
abbrev ev_k (X : Ev) : Nat → ClassId := X.2.2.1
abbrev ev_o (X : Ev) : Nat := X.2.2.2.1
abbrev ev_b (X : Ev) : Nat := X.2.2.2.2.1
abbrev ev_p (X : Ev) : Nat := X.2.2.2.2.2.1
abbrev ev_L (X : Ev) : Nat := X.2.2.2.2.2.2.1
abbrev ev_x (X : Ev) : Nat → Int32 := X.2.2.2.2.2.2.2
abbrev Cel : Type := (Nat × vp_A) ⊕ (Nat × List Value)
abbrev Hp : Type := List Cel
/-- a value as the machine has it: a place is an address; retAddr 0 stands for the script, retAddr 1 for the table of polynomials -/
def tv (X : Ev) : Value → Value
  | .ref i => .ref (ev_o X + i)
  | .retAddr 0 => .ref (ev_b X)
  | .retAddr (_ + 1) => .ref (ev_p X)
  | v => v
def ta (X : Ev) (a : vp_A) : vp_A := match a with
  | (n, .inr (.inr (.inr (.inr f)))) => (n, .inr (.inr (.inr (.inr (fun j => (f j).map (fun i => ev_o X + i))))))
  | x => x
def te (X : Ev) : Cel → va_E
  | .inl (t, a) => .inl (ev_k X t, ta X a)
  | .inr (ci, fs) => .inr (ci, fs.map (tv X))
def ws_ (X : Ev) (M : Hp) : va_W := M.mapIdx (fun i c => (ev_o X + i, te X c))
def csz : Cel → Nat
  | .inl (_, a) => a.1
  | .inr (_, fs) => fs.length
def sl (M : Hp) : Nat := (M.map csz).sum
theorem ta_1 (X : Ev) (a : vp_A) : (ta X a).1 = a.1 := by
  unfold ta; split <;> rfl
theorem tv_cat (X : Ev) (v : Value) : (tv X v).category = v.category := by
  cases v with
  | retAddr n => cases n <;> rfl
  | _ => rfl
theorem ws_get {X : Ev} {M : Hp} {i : Nat} {c : Cel} (h : M[i]? = some c) : (ws_ X M)[i]? = some (ev_o X + i, te X c) := by
  simp [ws_, h]
theorem ws_set {X : Ev} {M : Hp} {i : Nat} {c : Cel} : (ws_ X M).set i (ev_o X + i, te X c) = ws_ X (M.set i c) := by
  apply List.ext_getElem?
  intro j
  by_cases h : i = j
  · subst h
    by_cases hl : i < M.length
    · rw [List.getElem?_set_self (by simpa [ws_] using hl)]
      simp [ws_, hl]
    · rw [List.getElem?_eq_none (by simp [ws_]; omega), List.getElem?_eq_none (by simp [ws_]; omega)]
  · rw [List.getElem?_set_ne h]
    simp only [ws_, List.getElem?_mapIdx]
    rw [List.getElem?_set_ne h]
theorem ws_push {X : Ev} {M : Hp} {c : Cel} : ws_ X M ++ [(ev_o X + M.length, te X c)] = ws_ X (M ++ [c]) := by
  simp [ws_, List.mapIdx_append]
theorem ws_len {X : Ev} {M : Hp} : (ws_ X M).length = M.length := by simp [ws_]
theorem sl_push (M : Hp) (c : Cel) : sl (M ++ [c]) = sl M + csz c := by simp [sl]
theorem sl_set : ∀ (M : Hp) (i : Nat) (c c' : Cel), M[i]? = some c → csz c' = csz c → sl (M.set i c') = sl M
  | [], i, c, c', h, _ => by simp at h
  | a :: M, 0, c, c', h, e => by
    simp at h; subst h; simp [sl, e]
  | a :: M, i + 1, c, c', h, e => by
    have := sl_set M i c c' (by simpa using h) e
    simp only [sl, List.set_cons_succ, List.map_cons, List.sum_cons] at this ⊢
    omega
theorem ws_D (X : Ev) (M : Hp) : va_D (fun q => ev_o X ≤ q) (ws_ X M) := by
  have key : ∀ (k : Nat) (q : Nat × va_E), (ws_ X M)[k]? = some q → q.1 = ev_o X + k := by
    intro k q h
    simp only [ws_, List.getElem?_mapIdx] at h
    cases hm : M[k]? with
    | none => rw [hm] at h; cases h
    | some c => rw [hm] at h; cases h; rfl
  refine ⟨fun i j x y h1 h2 h3 => ?_, fun k q h => ?_⟩
  · have := key i x h1
    have := key j y h2
    omega
  · show ev_o X ≤ q.1
    rw [key k q h]; omega
def pols : Nat → Int32 := fun j => ([11, 19, 37, 67, 137, 285, 529, 1033, 2053, 4179, 8219] : List Int32).getD j 0
abbrev cls_ : List vw_C := [(RX0, TX0, 12), (RX2, TX2, 5), (RX3, TX3, 9), (RX4, TX4, 4), (RX5, TX5, 1), (RX6, TX6, 10), (RX7, TX7, 27)]
def tyl : List FieldType := [.int, .long, .boolean, .object "PageMender$Page"]
abbrev tys_ (X : Ev) : List (ClassId × FieldType) := [(ev_k X 0, .int), (ev_k X 1, .long), (ev_k X 2, .boolean), (ev_k X 3, .object "PageMender$Page")]
def gt : List Cond := lw_tbl.filter goodWord
abbrev Jt : Type := MethodName × ByteArray × Nat × Option FieldType
abbrev jw (J : Jt) : List Cond := .code J.1 J.2.1 J.2.2.1 J.2.2.2 :: gt
abbrev evA (X : Ev) : Nat → Prop := fun q => ev_o X ≤ q
def nls : List Cond := [.methodLinkNest "PageMender" 11 ⟨"PageMender$Field", "<init>", "()V"⟩ "PageMender", .methodLinkNest "PageMender" 40 ⟨"PageMender$Page", "<init>", "()V"⟩ "PageMender", .methodLinkNest "PageMender" 43 ⟨"PageMender$Row", "<init>", "()V"⟩ "PageMender", .methodLinkNest "PageMender$Code" 27 ⟨"PageMender$Row", "<init>", "()V"⟩ "PageMender", .methodLinkNest "PageMender$Mender" 11 ⟨"PageMender$Row", "<init>", "()V"⟩ "PageMender", .methodLinkNest "PageMender$Page" 11 ⟨"PageMender$Row", "<init>", "()V"⟩ "PageMender"]
theorem nls_form : ∀ w ∈ nls, ∃ a i x h, w = Cond.methodLinkNest a i x h := by
  intro w hw
  simp only [nls, List.mem_cons, List.not_mem_nil, or_false] at hw
  rcases hw with rfl | rfl | rfl | rfl | rfl | rfl <;> exact ⟨_, _, _, _, rfl⟩
theorem nls_warm {s U : State} (hW : s.WarmedH U.vm) (h : ∀ w ∈ nls, va_Nw w s) : ∀ w ∈ nls, va_Nw w U := fun w hw => by
  obtain ⟨a, i, x, hh, rfl⟩ := nls_form w hw
  exact va_Nw.warmM hW (h _ hw)
theorem nls_same {s U : State} (hv : s.vm = U.vm) (h : ∀ w ∈ nls, va_Nw w s) : ∀ w ∈ nls, va_Nw w U := fun w hw => by
  obtain ⟨a, i, x, hh, rfl⟩ := nls_form w hw
  exact va_Nw.same rfl hv (h _ hw)
def Ro (X : Ev) (U : State) : Prop := va_T .int (ev_b X) (ev_L X) (fun j => .int (ev_x X j)) (evA X) U U.heap ∧ va_T .int (ev_p X) 11 (fun j => .int (pols j)) (evA X) U U.heap ∧ va_Z "PageMender$Field" "POLYNOMIALS" "[I" (.ref (ev_p X)) (evA X) U U.heap ∧ va_AO "PageMender$Page" U ∧ ∀ w ∈ nls, va_Nw w U
def Qk (X : Ev) (v : Option Value) (M' : Hp) : Array Value → State → Outcome → State → Prop := fun _ st oc t => (oc = .returned (v.map (tv X)) ∧ va_P (ev_D X) cls_ (ws_ X M') t.heap) ∧ va_F (evA X) st t
def Pk (X : Ev) (M : Hp) : State → Prop := fun U => va_P (ev_D X) cls_ (ws_ X M) U.heap ∧ va_K (ev_D X) cls_ (tys_ X) U ∧ U.heap.size = ev_o X + M.length ∧ Ro X U
def Le (M M' : Hp) : Prop := M.length ≤ M'.length ∧ sl M ≤ sl M'
theorem Le.rf (M : Hp) : Le M M := ⟨Nat.le_refl _, Nat.le_refl _⟩
theorem Le.tr {M M1 M2 : Hp} (h : Le M M1) (h2 : Le M1 M2) : Le M M2 := ⟨Nat.le_trans h.1 h2.1, Nat.le_trans h.2 h2.2⟩
/-- a method: from any start with these arguments and this heap it returns, with this answer and this heap; d levels of calls below it -/
def Cl (X : Ev) (d : Nat) (J : Jt) (as : List Value) (M : Hp) (v : Option Value) (M' : Hp) : Prop :=
  Le M M' ∧ Met (ev_l X) J.1 (jw J) { frames := d, cells := M'.length - M.length, slots := sl M' - sl M, locals := 28 * d } (va_Pc (as.map (tv X)) (Pk X M)) (Qk X v M') (M'.length - M.length) (sl M' - sl M) (evA X)
def lq (X : Ev) : Nat → List (Option Value) → List (Nat × Value)
  | _, [] => []
  | k, some v :: r => (k, tv X v) :: lq X (k + 1) r
  | k, none :: r => lq X (k + 1) r
theorem lq_mem (X : Ev) : ∀ (ls : List (Option Value)) (k : Nat) (q : Nat × Value), q ∈ lq X k ls ↔ ∃ i v, ls[i]? = some (some v) ∧ q = (k + i, tv X v)
  | [], k, q => by simp [lq]
  | some a :: r, k, q => by
    simp only [lq, List.mem_cons]
    rw [lq_mem X r (k + 1) q]
    constructor
    · rintro (rfl | ⟨i, v, h, rfl⟩)
      · exact ⟨0, a, by simp, by simp⟩
      · exact ⟨i + 1, v, by simpa using h, by congr 1; omega⟩
    · rintro ⟨i, v, h, rfl⟩
      cases i with
      | zero => left; simp at h; subst h; simp
      | succ i => right; exact ⟨i, v, by simpa using h, by congr 1; omega⟩
  | none :: r, k, q => by
    simp only [lq]
    rw [lq_mem X r (k + 1) q]
    constructor
    · rintro ⟨i, v, h, rfl⟩
      exact ⟨i + 1, v, by simpa using h, by congr 1; omega⟩
    · rintro ⟨i, v, h, rfl⟩
      cases i with
      | zero => simp at h
      | succ i => exact ⟨i, v, by simpa using h, by congr 1; omega⟩
def Ca (X : Ev) (d : Nat) (J : Jt) (M0 : Hp) (p : Program) (R : Room) (s : State) (m : MethodId) (args : Array Value) (meth : Method) (c : Code) : Prop :=
  p.tables.exec = Jvm.exec ∧ c.code = J.2.1 ∧ c.maxLocals = J.2.2.1 ∧ meth.sig.returnType = J.2.2.2 ∧ meth.locks = false ∧ (J.1.name = "<init>" → meth.name = "<init>") ∧ s.vm.findClass J.1.cls = some m.cls ∧ (∀ w ∈ gt, w.before args s = true) ∧ d ≤ R.frames ∧ 28 * d ≤ R.locals ∧ va_K (ev_D X) cls_ (tys_ X) s ∧ Ro X s ∧ s.heap.size = ev_o X + M0.length
def Cb (X : Ev) (J : Jt) (s : State) (M : Hp) (ls : List (Option Value)) (H : Heap) (locs : List Loc) (lsM : Array Slot) : Prop :=
  va_P (ev_D X) cls_ (ws_ X M) H ∧ va_S (evA X) s.heap H locs ∧ lv_has lsM J.2.2.1 (lq X 0 ls)
/-- the code of method J from pc on, with these locals, this stack and this heap: it comes to a return, with this answer and this heap -/
def G (X : Ev) (d : Nat) (J : Jt) (M0 : Hp) (pc : Nat) (ls : List (Option Value)) (st : List Value) (M : Hp) (v : Option Value) (M' : Hp) : Prop :=
  Le M M' ∧ (Le M0 M → ∀ (p : Program) (e : Env) (R : Room) (s : State) (m : MethodId) (args : Array Value) (below : List Frame) (meth : Method) (c : Code) (H : Heap) (locs : List Loc) (lsM : Array Slot), Ca X d J M0 p R s m args meth c → (M'.length - M0.length ≤ R.cells ∧ sl M' - sl M0 ≤ R.slots) → Cb X J s M ls H locs lsM →
    W p (ev_l X) e R s m args below meth c H locs (M.length - M0.length) (sl M - sl M0) (MQ below (Qk X v M') args s (M'.length - M0.length) (sl M' - sl M0) (evA X)) (F0 m pc lsM (st.map (tv X))))
section LOGIC
variable {X : Ev} {d : Nat} {J : Jt} {M0 M M' : Hp} {pc : Nat} {ls : List (Option Value)} {st : List Value} {v : Option Value}
theorem G.by1 {pc' : Nat} {ls' : List (Option Value)} {st' : List Value} (k : G X d J M0 pc' ls' st' M v M')
    (h : ∀ (p : Program) (e : Env) (R : Room) (s : State) (m : MethodId) (args : Array Value) (below : List Frame) (meth : Method) (c : Code) (H : Heap) (locs : List Loc) (lsM : Array Slot) (cells slots : Nat) (Q : State → Prop), Ca X d J M0 p R s m args meth c → Cb X J s M ls H locs lsM →
      (∀ lsM' : Array Slot, lv_has lsM' J.2.2.1 (lq X 0 ls') → W p (ev_l X) e R s m args below meth c H locs cells slots Q (F0 m pc' lsM' (st'.map (tv X)))) → W p (ev_l X) e R s m args below meth c H locs cells slots Q (F0 m pc lsM (st.map (tv X)))) : G X d J M0 pc ls st M v M' :=
  ⟨k.1, fun hL p e R s m args below meth c H locs lsM ha hr hb => h p e R s m args below meth c H locs lsM _ _ _ ha hb (fun lsM' hl' => k.2 hL p e R s m args below meth c H locs lsM' ha hr ⟨hb.1, hb.2.1, hl'⟩)⟩
/-- the heap changes in place -/
theorem G.by2 {M1 : Hp} {pc' : Nat} {st' : List Value} (k : G X d J M0 pc' ls st' M1 v M') (hlen : M1.length = M.length) (hsl : sl M1 = sl M)
    (h : ∀ (p : Program) (e : Env) (R : Room) (s : State) (m : MethodId) (args : Array Value) (below : List Frame) (meth : Method) (c : Code) (H : Heap) (locs : List Loc) (lsM : Array Slot) (cells slots : Nat) (Q : State → Prop), Ca X d J M0 p R s m args meth c → Cb X J s M ls H locs lsM →
      (∀ (H1 : Heap) (locs1 : List Loc), va_P (ev_D X) cls_ (ws_ X M1) H1 → va_S (evA X) s.heap H1 locs1 → W p (ev_l X) e R s m args below meth c H1 locs1 cells slots Q (F0 m pc' lsM (st'.map (tv X)))) → W p (ev_l X) e R s m args below meth c H locs cells slots Q (F0 m pc lsM (st.map (tv X)))) : G X d J M0 pc ls st M v M' := by
  refine ⟨⟨by rw [← hlen]; exact k.1.1, by rw [← hsl]; exact k.1.2⟩, fun hL p e R s m args below meth c H locs lsM ha hr hb => ?_⟩
  refine h p e R s m args below meth c H locs lsM _ _ _ ha hb (fun H1 locs1 hP hS => ?_)
  have := k.2 ⟨by rw [hlen]; exact hL.1, by rw [hsl]; exact hL.2⟩ p e R s m args below meth c H1 locs1 lsM ha hr ⟨hP, hS, hb.2.2⟩
  rw [hlen, hsl] at this
  exact this
theorem lv_keep {X : Ev} {J : Jt} {lsM : Array Slot} {ls : List (Option Value)} (h : lv_has lsM J.2.2.1 (lq X 0 ls)) {i : Nat} {v : Value} (hl : ls[i]? = some (some v)) : lsM[i]? = some (.val (tv X v)) :=
  h.2.2 (i, tv X v) ((lq_mem X ls 0 _).mpr ⟨i, v, hl, by simp⟩)
/-- fewer locals are known -/
theorem x_fewer {ls' : List (Option Value)} (h : ∀ (i : Nat) (w : Value), ls'[i]? = some (some w) → ls[i]? = some (some w)) (k : G X d J M0 pc ls' st M v M') : G X d J M0 pc ls st M v M' :=
  G.by1 k fun p e R s m args below meth c H locs lsM cells slots Q ha hb kk => kk lsM ⟨hb.2.2.1, hb.2.2.2.1, fun q hq => by
    obtain ⟨i, w, h1, rfl⟩ := (lq_mem X ls' 0 q).mp hq
    exact hb.2.2.2.2 _ ((lq_mem X ls 0 _).mpr ⟨i, w, h i w h1, rfl⟩)⟩

theorem x_iload {i : Nat} {x : Int32} (hd : decode J.2.1 pc = .ok (.iload i, 2)) (hl : ls[i]? = some (some (.int x))) (k : G X d J M0 (pc + 2) ls (.int x :: st) M v M') : G X d J M0 pc ls st M v M' :=
  G.by1 k fun p e R s m args below meth c H locs lsM cells slots Q ha hb kk => lv_iload ha.1 ha.2.1 hd (lv_keep hb.2.2 hl) (kk lsM hb.2.2)
theorem x_iload_n {j : Fin 4} {i : Nat} {x : Int32} (hd : decode J.2.1 pc = .ok (.iload_n j, 1)) (hi : (j : Nat) = i) (hl : ls[i]? = some (some (.int x))) (k : G X d J M0 (pc + 1) ls (.int x :: st) M v M') : G X d J M0 pc ls st M v M' :=
  G.by1 k fun p e R s m args below meth c H locs lsM cells slots Q ha hb kk => lv_iload_n ha.1 ha.2.1 hd hi (lv_keep hb.2.2 hl) (kk lsM hb.2.2)
theorem x_lload {i : Nat} {x : Int64} (hd : decode J.2.1 pc = .ok (.lload i, 2)) (hl : ls[i]? = some (some (.long x))) (k : G X d J M0 (pc + 2) ls (.long x :: st) M v M') : G X d J M0 pc ls st M v M' :=
  G.by1 k fun p e R s m args below meth c H locs lsM cells slots Q ha hb kk => lv_lload ha.1 ha.2.1 hd (lv_keep hb.2.2 hl) (kk lsM hb.2.2)
theorem x_lload_n {j : Fin 4} {i : Nat} {x : Int64} (hd : decode J.2.1 pc = .ok (.lload_n j, 1)) (hi : (j : Nat) = i) (hl : ls[i]? = some (some (.long x))) (k : G X d J M0 (pc + 1) ls (.long x :: st) M v M') : G X d J M0 pc ls st M v M' :=
  G.by1 k fun p e R s m args below meth c H locs lsM cells slots Q ha hb kk => lv_lload_n ha.1 ha.2.1 hd hi (lv_keep hb.2.2 hl) (kk lsM hb.2.2)
theorem x_aload {i : Nat} {x : Nat} (hd : decode J.2.1 pc = .ok (.aload i, 2)) (hl : ls[i]? = some (some (.ref x))) (k : G X d J M0 (pc + 2) ls (.ref x :: st) M v M') : G X d J M0 pc ls st M v M' :=
  G.by1 k fun p e R s m args below meth c H locs lsM cells slots Q ha hb kk => lv_aload ha.1 ha.2.1 hd (lv_keep hb.2.2 hl) (kk lsM hb.2.2)
theorem x_aload_n {j : Fin 4} {i : Nat} {x : Nat} (hd : decode J.2.1 pc = .ok (.aload_n j, 1)) (hi : (j : Nat) = i) (hl : ls[i]? = some (some (.ref x))) (k : G X d J M0 (pc + 1) ls (.ref x :: st) M v M') : G X d J M0 pc ls st M v M' :=
  G.by1 k fun p e R s m args below meth c H locs lsM cells slots Q ha hb kk => lv_aload_n ha.1 ha.2.1 hd hi (lv_keep hb.2.2 hl) (kk lsM hb.2.2)
theorem x_aload_s {j : Fin 4} {i : Nat} (hd : decode J.2.1 pc = .ok (.aload_n j, 1)) (hi : (j : Nat) = i) (hl : ls[i]? = some (some (.retAddr 0))) (k : G X d J M0 (pc + 1) ls (.retAddr 0 :: st) M v M') : G X d J M0 pc ls st M v M' :=
  G.by1 k fun p e R s m args below meth c H locs lsM cells slots Q ha hb kk => lv_aload_n ha.1 ha.2.1 hd hi (lv_keep hb.2.2 hl) (kk lsM hb.2.2)
def ok2 (ls : List (Option Value)) : Nat → Bool
  | 0 => true
  | i + 1 => match ls[i]? with
    | some (some w) => w.category == 1
    | _ => true
theorem lq_set1 {X : Ev} {ls : List (Option Value)} {i : Nat} {w : Value} (h2 : ok2 ls i = true) : ∀ q ∈ lq X 0 (ls.set i (some w)), q ∈ ((i, tv X w) :: (lq X 0 ls).filter (fun q => !(q.1 == i) && !(q.1 + 1 == i && q.2.category == 2))) := by
  intro q hq
  obtain ⟨j, u, hj, rfl⟩ := (lq_mem X _ 0 q).mp hq
  by_cases hij : i = j
  · subst hij
    by_cases hl : i < ls.length
    · rw [List.getElem?_set_self hl] at hj
      cases hj
      simp
    · rw [List.getElem?_eq_none (by simp; omega)] at hj
      cases hj
  · rw [List.getElem?_set_ne hij] at hj
    refine List.mem_cons_of_mem _ (List.mem_filter.mpr ⟨(lq_mem X ls 0 _).mpr ⟨j, u, hj, rfl⟩, ?_⟩)
    have h1 : (0 + j == i) = false := by simp; omega
    have h3 : (0 + j + 1 == i && (tv X u).category == 2) = false := by
      by_cases h4 : j + 1 = i
      · subst h4
        simp only [ok2, hj, beq_iff_eq] at h2
        rw [tv_cat, h2]; simp
      · simp; omega
    simp only [h1, h3]; rfl
theorem lq_set2 {X : Ev} {ls : List (Option Value)} {i : Nat} {w : Value} (h2 : ok2 ls i = true) : ∀ q ∈ lq X 0 ((ls.set i (some w)).set (i + 1) none), q ∈ ((i, tv X w) :: (lq X 0 ls).filter (fun q => !(q.1 == i) && (!(q.1 == i + 1) && !(q.1 + 1 == i && q.2.category == 2)))) := by
  intro q hq
  obtain ⟨j, u, hj, rfl⟩ := (lq_mem X _ 0 q).mp hq
  by_cases hij1 : i + 1 = j
  · subst hij1
    by_cases hl : i + 1 < ls.length
    · rw [List.getElem?_set_self (by simpa using hl)] at hj
      cases hj
    · rw [List.getElem?_eq_none (by simp; omega)] at hj
      cases hj
  · rw [List.getElem?_set_ne hij1] at hj
    have h5 := lq_set1 (X := X) (w := w) h2 (0 + j, tv X u) ((lq_mem X _ 0 _).mpr ⟨j, u, hj, rfl⟩)
    rcases List.mem_cons.mp h5 with h | h
    · rw [h]; exact List.mem_cons_self
    · refine List.mem_cons_of_mem _ ?_
      obtain ⟨ha, hb⟩ := List.mem_filter.mp h
      refine List.mem_filter.mpr ⟨ha, ?_⟩
      simp only [Bool.and_eq_true] at hb ⊢
      exact ⟨hb.1, by simp; omega, hb.2⟩
theorem lv_less {ls : Array Slot} {n : Nat} {l l' : List (Nat × Value)} (h : lv_has ls n l) (hs : ∀ q ∈ l', q ∈ l) : lv_has ls n l' := ⟨h.1, h.2.1, fun q hq => h.2.2 q (hs q hq)⟩
theorem x_istore {i : Nat} {x : Int32} {ls' : List (Option Value)} (hd : decode J.2.1 pc = .ok (.istore i, 2)) (hn : i < J.2.2.1) (h2 : ok2 ls i = true) (hs : ls.set i (some (.int x)) = ls') (k : G X d J M0 (pc + 2) ls' st M v M') : G X d J M0 pc ls (.int x :: st) M v M' :=
  G.by1 k fun p e R s m args below meth c H locs lsM cells slots Q ha hb kk => lv_istore ha.1 ha.2.1 hd hb.2.2 hn rfl (fun ls1 h1 => kk ls1 (lv_less h1 (by rw [← hs]; exact lq_set1 h2)))
theorem x_istore_n {j : Fin 4} {i : Nat} {x : Int32} {ls' : List (Option Value)} (hd : decode J.2.1 pc = .ok (.istore_n j, 1)) (hi : (j : Nat) = i) (hn : i < J.2.2.1) (h2 : ok2 ls i = true) (hs : ls.set i (some (.int x)) = ls') (k : G X d J M0 (pc + 1) ls' st M v M') : G X d J M0 pc ls (.int x :: st) M v M' :=
  G.by1 k fun p e R s m args below meth c H locs lsM cells slots Q ha hb kk => lv_istore_n ha.1 ha.2.1 hd hi hb.2.2 hn rfl (fun ls1 h1 => kk ls1 (lv_less h1 (by rw [← hs]; exact lq_set1 h2)))
theorem x_astore {i : Nat} {x : Nat} {ls' : List (Option Value)} (hd : decode J.2.1 pc = .ok (.astore i, 2)) (hn : i < J.2.2.1) (h2 : ok2 ls i = true) (hs : ls.set i (some (.ref x)) = ls') (k : G X d J M0 (pc + 2) ls' st M v M') : G X d J M0 pc ls (.ref x :: st) M v M' :=
  G.by1 k fun p e R s m args below meth c H locs lsM cells slots Q ha hb kk => lv_astore ha.1 ha.2.1 hd hb.2.2 hn rfl (fun ls1 h1 => kk ls1 (lv_less h1 (by rw [← hs]; exact lq_set1 h2)))
theorem x_astore_n {j : Fin 4} {i : Nat} {x : Nat} {ls' : List (Option Value)} (hd : decode J.2.1 pc = .ok (.astore_n j, 1)) (hi : (j : Nat) = i) (hn : i < J.2.2.1) (h2 : ok2 ls i = true) (hs : ls.set i (some (.ref x)) = ls') (k : G X d J M0 (pc + 1) ls' st M v M') : G X d J M0 pc ls (.ref x :: st) M v M' :=
  G.by1 k fun p e R s m args below meth c H locs lsM cells slots Q ha hb kk => lv_astore_n ha.1 ha.2.1 hd hi hb.2.2 hn rfl (fun ls1 h1 => kk ls1 (lv_less h1 (by rw [← hs]; exact lq_set1 h2)))
theorem x_lstore {i : Nat} {x : Int64} {ls' : List (Option Value)} (hd : decode J.2.1 pc = .ok (.lstore i, 2)) (hn : i + 1 < J.2.2.1) (h2 : ok2 ls i = true) (hs : (ls.set i (some (.long x))).set (i + 1) none = ls') (k : G X d J M0 (pc + 2) ls' st M v M') : G X d J M0 pc ls (.long x :: st) M v M' :=
  G.by1 k fun p e R s m args below meth c H locs lsM cells slots Q ha hb kk => lv_lstore ha.1 ha.2.1 hd hb.2.2 hn rfl (fun ls1 h1 => kk ls1 (lv_less h1 (by rw [← hs]; exact lq_set2 h2)))
theorem x_lstore_n {j : Fin 4} {i : Nat} {x : Int64} {ls' : List (Option Value)} (hd : decode J.2.1 pc = .ok (.lstore_n j, 1)) (hi : (j : Nat) = i) (hn : i + 1 < J.2.2.1) (h2 : ok2 ls i = true) (hs : (ls.set i (some (.long x))).set (i + 1) none = ls') (k : G X d J M0 (pc + 1) ls' st M v M') : G X d J M0 pc ls (.long x :: st) M v M' :=
  G.by1 k fun p e R s m args below meth c H locs lsM cells slots Q ha hb kk => lv_lstore_n ha.1 ha.2.1 hd hi hb.2.2 hn rfl (fun ls1 h1 => kk ls1 (lv_less h1 (by rw [← hs]; exact lq_set2 h2)))
theorem x_iinc {i : Nat} {n : Int} {x y : Int32} {ls' : List (Option Value)} (hd : decode J.2.1 pc = .ok (.iinc i n, 3)) (hn : i < J.2.2.1) (h2 : ok2 ls i = true) (hl : ls[i]? = some (some (.int x))) (hv : x + Int32.ofInt n = y) (hs : ls.set i (some (.int y)) = ls') (k : G X d J M0 (pc + 3) ls' st M v M') : G X d J M0 pc ls st M v M' :=
  G.by1 k fun p e R s m args below meth c H locs lsM cells slots Q ha hb kk => by
    obtain ⟨kx, hkx⟩ := List.getElem?_of_mem ((lq_mem X ls 0 (i, .int x)).mpr ⟨i, .int x, hl, by simp [tv]⟩)
    exact lv_iinc ha.1 ha.2.1 hd hb.2.2 hkx hv hn rfl (fun ls1 h1 => kk ls1 (lv_less h1 (by rw [← hs]; exact lq_set1 h2)))
theorem x_iconst {n : Int} {y : Int32} (hd : decode J.2.1 pc = .ok (.iconst n, 1)) (hv : Int32.ofInt n = y) (k : G X d J M0 (pc + 1) ls (.int y :: st) M v M') : G X d J M0 pc ls st M v M' :=
  G.by1 k fun p e R s m args below meth c H locs lsM cells slots Q ha hb kk => lv_iconst ha.1 ha.2.1 hd hv (kk lsM hb.2.2)
theorem x_bipush {n : Int} {y : Int32} (hd : decode J.2.1 pc = .ok (.bipush n, 2)) (hv : (Int8.ofInt n).toInt32 = y) (k : G X d J M0 (pc + 2) ls (.int y :: st) M v M') : G X d J M0 pc ls st M v M' :=
  G.by1 k fun p e R s m args below meth c H locs lsM cells slots Q ha hb kk => lv_bipush ha.1 ha.2.1 hd hv (kk lsM hb.2.2)
theorem x_sipush {n : Int} {y : Int32} (hd : decode J.2.1 pc = .ok (.sipush n, 3)) (hv : (Int16.ofInt n).toInt32 = y) (k : G X d J M0 (pc + 3) ls (.int y :: st) M v M') : G X d J M0 pc ls st M v M' :=
  G.by1 k fun p e R s m args below meth c H locs lsM cells slots Q ha hb kk => lv_sipush ha.1 ha.2.1 hd hv (kk lsM hb.2.2)
theorem x_lconst {n : Fin 2} {y : Int64} (hd : decode J.2.1 pc = .ok (.lconst n, 1)) (hv : Int64.ofNat (n : Nat) = y) (k : G X d J M0 (pc + 1) ls (.long y :: st) M v M') : G X d J M0 pc ls st M v M' :=
  G.by1 k fun p e R s m args below meth c H locs lsM cells slots Q ha hb kk => lv_lconst ha.1 ha.2.1 hd hv (kk lsM hb.2.2)
theorem x_ldc {i : Nat} {y : Int32} (hd : decode J.2.1 pc = .ok (.ldc i, 2)) (hw : Cond.constant J.1.cls i y ∈ gt) (k : G X d J M0 (pc + 2) ls (.int y :: st) M v M') : G X d J M0 pc ls st M v M' :=
  G.by1 k fun p e R s m args below meth c H locs lsM cells slots Q ha hb kk => lv_ldc ha.1 ha.2.1 ha.2.2.2.2.2.2.1 (ha.2.2.2.2.2.2.2.1 _ hw) hd (kk lsM hb.2.2)
theorem x_ldc2 {i : Nat} {y : Int64} (hd : decode J.2.1 pc = .ok (.ldc2_w i, 3)) (hw : Cond.constantLong J.1.cls i y ∈ gt) (k : G X d J M0 (pc + 3) ls (.long y :: st) M v M') : G X d J M0 pc ls st M v M' :=
  G.by1 k fun p e R s m args below meth c H locs lsM cells slots Q ha hb kk => lv_ldc2 ha.1 ha.2.1 ha.2.2.2.2.2.2.1 (ha.2.2.2.2.2.2.2.1 _ hw) hd (kk lsM hb.2.2)
theorem x_iadd {x y : Int32} (hd : decode J.2.1 pc = .ok (.iadd, 1)) (k : G X d J M0 (pc + 1) ls (.int (x + y) :: st) M v M') : G X d J M0 pc ls (.int y :: .int x :: st) M v M' :=
  G.by1 k fun p e R s m args below meth c H locs lsM cells slots Q ha hb kk => lv_iadd ha.1 ha.2.1 hd (kk lsM hb.2.2)
theorem x_isub {x y : Int32} (hd : decode J.2.1 pc = .ok (.isub, 1)) (k : G X d J M0 (pc + 1) ls (.int (x - y) :: st) M v M') : G X d J M0 pc ls (.int y :: .int x :: st) M v M' :=
  G.by1 k fun p e R s m args below meth c H locs lsM cells slots Q ha hb kk => lv_isub ha.1 ha.2.1 hd (kk lsM hb.2.2)
theorem x_imul {x y : Int32} (hd : decode J.2.1 pc = .ok (.imul, 1)) (k : G X d J M0 (pc + 1) ls (.int (x * y) :: st) M v M') : G X d J M0 pc ls (.int y :: .int x :: st) M v M' :=
  G.by1 k fun p e R s m args below meth c H locs lsM cells slots Q ha hb kk => lv_imul ha.1 ha.2.1 hd (kk lsM hb.2.2)
theorem x_iand {x y : Int32} (hd : decode J.2.1 pc = .ok (.iand, 1)) (k : G X d J M0 (pc + 1) ls (.int (x &&& y) :: st) M v M') : G X d J M0 pc ls (.int y :: .int x :: st) M v M' :=
  G.by1 k fun p e R s m args below meth c H locs lsM cells slots Q ha hb kk => lv_iand ha.1 ha.2.1 hd (kk lsM hb.2.2)
theorem x_ior {x y : Int32} (hd : decode J.2.1 pc = .ok (.ior, 1)) (k : G X d J M0 (pc + 1) ls (.int (x ||| y) :: st) M v M') : G X d J M0 pc ls (.int y :: .int x :: st) M v M' :=
  G.by1 k fun p e R s m args below meth c H locs lsM cells slots Q ha hb kk => lv_ior ha.1 ha.2.1 hd (kk lsM hb.2.2)
theorem x_ixor {x y : Int32} (hd : decode J.2.1 pc = .ok (.ixor, 1)) (k : G X d J M0 (pc + 1) ls (.int (x ^^^ y) :: st) M v M') : G X d J M0 pc ls (.int y :: .int x :: st) M v M' :=
  G.by1 k fun p e R s m args below meth c H locs lsM cells slots Q ha hb kk => lv_ixor ha.1 ha.2.1 hd (kk lsM hb.2.2)
theorem x_ishl {x y : Int32} (hd : decode J.2.1 pc = .ok (.ishl, 1)) (k : G X d J M0 (pc + 1) ls (.int (x <<< (y &&& 31)) :: st) M v M') : G X d J M0 pc ls (.int y :: .int x :: st) M v M' :=
  G.by1 k fun p e R s m args below meth c H locs lsM cells slots Q ha hb kk => lv_ishl ha.1 ha.2.1 hd (kk lsM hb.2.2)
theorem x_ishr {x y : Int32} (hd : decode J.2.1 pc = .ok (.ishr, 1)) (k : G X d J M0 (pc + 1) ls (.int (x >>> (y &&& 31)) :: st) M v M') : G X d J M0 pc ls (.int y :: .int x :: st) M v M' :=
  G.by1 k fun p e R s m args below meth c H locs lsM cells slots Q ha hb kk => lv_ishr ha.1 ha.2.1 hd (kk lsM hb.2.2)
theorem x_idiv {x y : Int32} (hd : decode J.2.1 pc = .ok (.idiv, 1)) (hne : ¬ y = 0) (k : G X d J M0 (pc + 1) ls (.int (x / y) :: st) M v M') : G X d J M0 pc ls (.int y :: .int x :: st) M v M' :=
  G.by1 k fun p e R s m args below meth c H locs lsM cells slots Q ha hb kk => lv_idiv ha.1 ha.2.1 hd hne (kk lsM hb.2.2)
theorem x_irem {x y : Int32} (hd : decode J.2.1 pc = .ok (.irem, 1)) (hne : ¬ y = 0) (k : G X d J M0 (pc + 1) ls (.int (x - x / y * y) :: st) M v M') : G X d J M0 pc ls (.int y :: .int x :: st) M v M' :=
  G.by1 k fun p e R s m args below meth c H locs lsM cells slots Q ha hb kk => lv_irem ha.1 ha.2.1 hd hne (kk lsM hb.2.2)
theorem x_ladd {x y : Int64} (hd : decode J.2.1 pc = .ok (.ladd, 1)) (k : G X d J M0 (pc + 1) ls (.long (x + y) :: st) M v M') : G X d J M0 pc ls (.long y :: .long x :: st) M v M' :=
  G.by1 k fun p e R s m args below meth c H locs lsM cells slots Q ha hb kk => lv_ladd ha.1 ha.2.1 hd (kk lsM hb.2.2)
theorem x_lsub {x y : Int64} (hd : decode J.2.1 pc = .ok (.lsub, 1)) (k : G X d J M0 (pc + 1) ls (.long (x - y) :: st) M v M') : G X d J M0 pc ls (.long y :: .long x :: st) M v M' :=
  G.by1 k fun p e R s m args below meth c H locs lsM cells slots Q ha hb kk => lv_lsub ha.1 ha.2.1 hd (kk lsM hb.2.2)
theorem x_lmul {x y : Int64} (hd : decode J.2.1 pc = .ok (.lmul, 1)) (k : G X d J M0 (pc + 1) ls (.long (x * y) :: st) M v M') : G X d J M0 pc ls (.long y :: .long x :: st) M v M' :=
  G.by1 k fun p e R s m args below meth c H locs lsM cells slots Q ha hb kk => lv_lmul ha.1 ha.2.1 hd (kk lsM hb.2.2)
theorem x_land {x y : Int64} (hd : decode J.2.1 pc = .ok (.land, 1)) (k : G X d J M0 (pc + 1) ls (.long (x &&& y) :: st) M v M') : G X d J M0 pc ls (.long y :: .long x :: st) M v M' :=
  G.by1 k fun p e R s m args below meth c H locs lsM cells slots Q ha hb kk => lv_land ha.1 ha.2.1 hd (kk lsM hb.2.2)
theorem x_lor {x y : Int64} (hd : decode J.2.1 pc = .ok (.lor, 1)) (k : G X d J M0 (pc + 1) ls (.long (x ||| y) :: st) M v M') : G X d J M0 pc ls (.long y :: .long x :: st) M v M' :=
  G.by1 k fun p e R s m args below meth c H locs lsM cells slots Q ha hb kk => lv_lor ha.1 ha.2.1 hd (kk lsM hb.2.2)
theorem x_lxor {x y : Int64} (hd : decode J.2.1 pc = .ok (.lxor, 1)) (k : G X d J M0 (pc + 1) ls (.long (x ^^^ y) :: st) M v M') : G X d J M0 pc ls (.long y :: .long x :: st) M v M' :=
  G.by1 k fun p e R s m args below meth c H locs lsM cells slots Q ha hb kk => lv_lxor ha.1 ha.2.1 hd (kk lsM hb.2.2)
theorem x_lrem {x y : Int64} (hd : decode J.2.1 pc = .ok (.lrem, 1)) (hne : ¬ y = 0) (k : G X d J M0 (pc + 1) ls (.long (x - x / y * y) :: st) M v M') : G X d J M0 pc ls (.long y :: .long x :: st) M v M' :=
  G.by1 k fun p e R s m args below meth c H locs lsM cells slots Q ha hb kk => lv_lrem ha.1 ha.2.1 hd hne (kk lsM hb.2.2)
theorem x_lneg {x : Int64} (hd : decode J.2.1 pc = .ok (.lneg, 1)) (k : G X d J M0 (pc + 1) ls (.long (-x) :: st) M v M') : G X d J M0 pc ls (.long x :: st) M v M' :=
  G.by1 k fun p e R s m args below meth c H locs lsM cells slots Q ha hb kk => lv_lneg ha.1 ha.2.1 hd (kk lsM hb.2.2)
theorem x_i2l {x : Int32} (hd : decode J.2.1 pc = .ok (.i2l, 1)) (k : G X d J M0 (pc + 1) ls (.long x.toInt64 :: st) M v M') : G X d J M0 pc ls (.int x :: st) M v M' :=
  G.by1 k fun p e R s m args below meth c H locs lsM cells slots Q ha hb kk => lv_i2l ha.1 ha.2.1 hd rfl (kk lsM hb.2.2)
theorem x_l2i {x : Int64} (hd : decode J.2.1 pc = .ok (.l2i, 1)) (k : G X d J M0 (pc + 1) ls (.int x.toInt32 :: st) M v M') : G X d J M0 pc ls (.long x :: st) M v M' :=
  G.by1 k fun p e R s m args below meth c H locs lsM cells slots Q ha hb kk => lv_l2i ha.1 ha.2.1 hd rfl (kk lsM hb.2.2)
theorem x_lcmp {x y : Int64} (hd : decode J.2.1 pc = .ok (.lcmp, 1)) (k : G X d J M0 (pc + 1) ls (.int (lg_cmp x y) :: st) M v M') : G X d J M0 pc ls (.long y :: .long x :: st) M v M' :=
  G.by1 k fun p e R s m args below meth c H locs lsM cells slots Q ha hb kk => W.lcmp ha.1 ha.2.1 hd (kk lsM hb.2.2)
theorem x_lushr {x : Int64} {y : Int32} (hd : decode J.2.1 pc = .ok (.lushr, 1)) (k : G X d J M0 (pc + 1) ls (.long ((x.toUInt64 >>> (y.toInt64.toUInt64 &&& Int64.toUInt64 63)).toInt64) :: st) M v M') : G X d J M0 pc ls (.int y :: .long x :: st) M v M' :=
  G.by1 k fun p e R s m args below meth c H locs lsM cells slots Q ha hb kk => lv_lushr ha.1 ha.2.1 hd rfl (kk lsM hb.2.2)
theorem x_lshl {x : Int64} {y : Int32} (hd : decode J.2.1 pc = .ok (.lshl, 1)) (k : G X d J M0 (pc + 1) ls (.long (x <<< (y.toInt64 &&& 63)) :: st) M v M') : G X d J M0 pc ls (.int y :: .long x :: st) M v M' :=
  G.by1 k fun p e R s m args below meth c H locs lsM cells slots Q ha hb kk => lv_lshl ha.1 ha.2.1 hd rfl (kk lsM hb.2.2)
theorem x_lshr {x : Int64} {y : Int32} (hd : decode J.2.1 pc = .ok (.lshr, 1)) (k : G X d J M0 (pc + 1) ls (.long (x >>> (y.toInt64 &&& 63)) :: st) M v M') : G X d J M0 pc ls (.int y :: .long x :: st) M v M' :=
  G.by1 k fun p e R s m args below meth c H locs lsM cells slots Q ha hb kk => lv_lshr ha.1 ha.2.1 hd rfl (kk lsM hb.2.2)
theorem x_dup {a : Value} (hd : decode J.2.1 pc = .ok (.dup, 1)) (hc : a.category = 1) (k : G X d J M0 (pc + 1) ls (a :: a :: st) M v M') : G X d J M0 pc ls (a :: st) M v M' :=
  G.by1 k fun p e R s m args below meth c H locs lsM cells slots Q ha hb kk => lv_dup ha.1 ha.2.1 hd ((tv_cat X a).trans hc) (kk lsM hb.2.2)
theorem x_pop {a : Value} (hd : decode J.2.1 pc = .ok (.pop, 1)) (hc : a.category = 1) (k : G X d J M0 (pc + 1) ls st M v M') : G X d J M0 pc ls (a :: st) M v M' :=
  G.by1 k fun p e R s m args below meth c H locs lsM cells slots Q ha hb kk => lv_pop ha.1 ha.2.1 hd ((tv_cat X a).trans hc) (kk lsM hb.2.2)
theorem x_dup2 {a b : Value} (hd : decode J.2.1 pc = .ok (.dup2, 1)) (hc : a.category = 1) (hc2 : b.category = 1) (k : G X d J M0 (pc + 1) ls (a :: b :: a :: b :: st) M v M') : G X d J M0 pc ls (a :: b :: st) M v M' :=
  G.by1 k fun p e R s m args below meth c H locs lsM cells slots Q ha hb kk => lv_dup2_11 ha.1 ha.2.1 hd ((tv_cat X a).trans hc) ((tv_cat X b).trans hc2) (kk lsM hb.2.2)
theorem x_goto {off : Int} {tgt : Nat} (hd : decode J.2.1 pc = .ok (.goto off, 3)) (ht : (pc : Int) + off = (tgt : Int)) (k : G X d J M0 tgt ls st M v M') : G X d J M0 pc ls st M v M' :=
  G.by1 k fun p e R s m args below meth c H locs lsM cells slots Q ha hb kk => lv_goto ha.1 ha.2.1 hd ht (kk lsM hb.2.2)
theorem x_if_eq {x : Int32} {off : Int} {tgt : Nat} (hd : decode J.2.1 pc = .ok (.ifCond .eq off, 3)) (ht : (pc : Int) + off = (tgt : Int)) (kt : x = 0 → G X d J M0 tgt ls st M v M') (kf : ¬ x = 0 → G X d J M0 (pc + 3) ls st M v M') : G X d J M0 pc ls (.int x :: st) M v M' := by
  by_cases hc : x = 0
  · exact G.by1 (kt hc) fun p e R s m args below meth c H locs lsM cells slots Q ha hb kk => lv_if_eq ha.1 ha.2.1 hd ht (fun _ => kk lsM hb.2.2) (fun h => absurd hc (by first | exact h | exact fun z => z h))
  · have hc' : ¬ x = 0 := by first | exact hc | exact Classical.byContradiction hc
    exact G.by1 (kf hc') fun p e R s m args below meth c H locs lsM cells slots Q ha hb kk => lv_if_eq ha.1 ha.2.1 hd ht (fun h => absurd h hc) (fun _ => kk lsM hb.2.2)
theorem x_icmp_eq {x y : Int32} {off : Int} {tgt : Nat} (hd : decode J.2.1 pc = .ok (.if_icmp .eq off, 3)) (ht : (pc : Int) + off = (tgt : Int)) (kt : x = y → G X d J M0 tgt ls st M v M') (kf : ¬ x = y → G X d J M0 (pc + 3) ls st M v M') : G X d J M0 pc ls (.int y :: .int x :: st) M v M' := by
  by_cases hc : x = y
  · exact G.by1 (kt hc) fun p e R s m args below meth c H locs lsM cells slots Q ha hb kk => lv_icmp_eq ha.1 ha.2.1 hd ht (fun _ => kk lsM hb.2.2) (fun h => absurd hc (by first | exact h | exact fun z => z h))
  · have hc' : ¬ x = y := by first | exact hc | exact Classical.byContradiction hc
    exact G.by1 (kf hc') fun p e R s m args below meth c H locs lsM cells slots Q ha hb kk => lv_icmp_eq ha.1 ha.2.1 hd ht (fun h => absurd h hc) (fun _ => kk lsM hb.2.2)
theorem x_if_ne {x : Int32} {off : Int} {tgt : Nat} (hd : decode J.2.1 pc = .ok (.ifCond .ne off, 3)) (ht : (pc : Int) + off = (tgt : Int)) (kt : ¬ x = 0 → G X d J M0 tgt ls st M v M') (kf : x = 0 → G X d J M0 (pc + 3) ls st M v M') : G X d J M0 pc ls (.int x :: st) M v M' := by
  by_cases hc : ¬ x = 0
  · exact G.by1 (kt hc) fun p e R s m args below meth c H locs lsM cells slots Q ha hb kk => lv_if_ne ha.1 ha.2.1 hd ht (fun _ => kk lsM hb.2.2) (fun h => absurd hc (by first | exact h | exact fun z => z h))
  · have hc' : x = 0 := by first | exact hc | exact Classical.byContradiction hc
    exact G.by1 (kf hc') fun p e R s m args below meth c H locs lsM cells slots Q ha hb kk => lv_if_ne ha.1 ha.2.1 hd ht (fun h => absurd h hc) (fun _ => kk lsM hb.2.2)
theorem x_icmp_ne {x y : Int32} {off : Int} {tgt : Nat} (hd : decode J.2.1 pc = .ok (.if_icmp .ne off, 3)) (ht : (pc : Int) + off = (tgt : Int)) (kt : ¬ x = y → G X d J M0 tgt ls st M v M') (kf : x = y → G X d J M0 (pc + 3) ls st M v M') : G X d J M0 pc ls (.int y :: .int x :: st) M v M' := by
  by_cases hc : ¬ x = y
  · exact G.by1 (kt hc) fun p e R s m args below meth c H locs lsM cells slots Q ha hb kk => lv_icmp_ne ha.1 ha.2.1 hd ht (fun _ => kk lsM hb.2.2) (fun h => absurd hc (by first | exact h | exact fun z => z h))
  · have hc' : x = y := by first | exact hc | exact Classical.byContradiction hc
    exact G.by1 (kf hc') fun p e R s m args below meth c H locs lsM cells slots Q ha hb kk => lv_icmp_ne ha.1 ha.2.1 hd ht (fun h => absurd h hc) (fun _ => kk lsM hb.2.2)
theorem x_if_lt {x : Int32} {off : Int} {tgt : Nat} (hd : decode J.2.1 pc = .ok (.ifCond .lt off, 3)) (ht : (pc : Int) + off = (tgt : Int)) (kt : x < 0 → G X d J M0 tgt ls st M v M') (kf : ¬ x < 0 → G X d J M0 (pc + 3) ls st M v M') : G X d J M0 pc ls (.int x :: st) M v M' := by
  by_cases hc : x < 0
  · exact G.by1 (kt hc) fun p e R s m args below meth c H locs lsM cells slots Q ha hb kk => lv_if_lt ha.1 ha.2.1 hd ht (fun _ => kk lsM hb.2.2) (fun h => absurd hc (by first | exact h | exact fun z => z h))
  · have hc' : ¬ x < 0 := by first | exact hc | exact Classical.byContradiction hc
    exact G.by1 (kf hc') fun p e R s m args below meth c H locs lsM cells slots Q ha hb kk => lv_if_lt ha.1 ha.2.1 hd ht (fun h => absurd h hc) (fun _ => kk lsM hb.2.2)
theorem x_icmp_lt {x y : Int32} {off : Int} {tgt : Nat} (hd : decode J.2.1 pc = .ok (.if_icmp .lt off, 3)) (ht : (pc : Int) + off = (tgt : Int)) (kt : x < y → G X d J M0 tgt ls st M v M') (kf : ¬ x < y → G X d J M0 (pc + 3) ls st M v M') : G X d J M0 pc ls (.int y :: .int x :: st) M v M' := by
  by_cases hc : x < y
  · exact G.by1 (kt hc) fun p e R s m args below meth c H locs lsM cells slots Q ha hb kk => lv_icmp_lt ha.1 ha.2.1 hd ht (fun _ => kk lsM hb.2.2) (fun h => absurd hc (by first | exact h | exact fun z => z h))
  · have hc' : ¬ x < y := by first | exact hc | exact Classical.byContradiction hc
    exact G.by1 (kf hc') fun p e R s m args below meth c H locs lsM cells slots Q ha hb kk => lv_icmp_lt ha.1 ha.2.1 hd ht (fun h => absurd h hc) (fun _ => kk lsM hb.2.2)
theorem x_if_ge {x : Int32} {off : Int} {tgt : Nat} (hd : decode J.2.1 pc = .ok (.ifCond .ge off, 3)) (ht : (pc : Int) + off = (tgt : Int)) (kt : 0 ≤ x → G X d J M0 tgt ls st M v M') (kf : ¬ 0 ≤ x → G X d J M0 (pc + 3) ls st M v M') : G X d J M0 pc ls (.int x :: st) M v M' := by
  by_cases hc : 0 ≤ x
  · exact G.by1 (kt hc) fun p e R s m args below meth c H locs lsM cells slots Q ha hb kk => lv_if_ge ha.1 ha.2.1 hd ht (fun _ => kk lsM hb.2.2) (fun h => absurd hc (by first | exact h | exact fun z => z h))
  · have hc' : ¬ 0 ≤ x := by first | exact hc | exact Classical.byContradiction hc
    exact G.by1 (kf hc') fun p e R s m args below meth c H locs lsM cells slots Q ha hb kk => lv_if_ge ha.1 ha.2.1 hd ht (fun h => absurd h hc) (fun _ => kk lsM hb.2.2)
theorem x_icmp_ge {x y : Int32} {off : Int} {tgt : Nat} (hd : decode J.2.1 pc = .ok (.if_icmp .ge off, 3)) (ht : (pc : Int) + off = (tgt : Int)) (kt : y ≤ x → G X d J M0 tgt ls st M v M') (kf : ¬ y ≤ x → G X d J M0 (pc + 3) ls st M v M') : G X d J M0 pc ls (.int y :: .int x :: st) M v M' := by
  by_cases hc : y ≤ x
  · exact G.by1 (kt hc) fun p e R s m args below meth c H locs lsM cells slots Q ha hb kk => lv_icmp_ge ha.1 ha.2.1 hd ht (fun _ => kk lsM hb.2.2) (fun h => absurd hc (by first | exact h | exact fun z => z h))
  · have hc' : ¬ y ≤ x := by first | exact hc | exact Classical.byContradiction hc
    exact G.by1 (kf hc') fun p e R s m args below meth c H locs lsM cells slots Q ha hb kk => lv_icmp_ge ha.1 ha.2.1 hd ht (fun h => absurd h hc) (fun _ => kk lsM hb.2.2)
theorem x_if_gt {x : Int32} {off : Int} {tgt : Nat} (hd : decode J.2.1 pc = .ok (.ifCond .gt off, 3)) (ht : (pc : Int) + off = (tgt : Int)) (kt : 0 < x → G X d J M0 tgt ls st M v M') (kf : ¬ 0 < x → G X d J M0 (pc + 3) ls st M v M') : G X d J M0 pc ls (.int x :: st) M v M' := by
  by_cases hc : 0 < x
  · exact G.by1 (kt hc) fun p e R s m args below meth c H locs lsM cells slots Q ha hb kk => lv_if_gt ha.1 ha.2.1 hd ht (fun _ => kk lsM hb.2.2) (fun h => absurd hc (by first | exact h | exact fun z => z h))
  · have hc' : ¬ 0 < x := by first | exact hc | exact Classical.byContradiction hc
    exact G.by1 (kf hc') fun p e R s m args below meth c H locs lsM cells slots Q ha hb kk => lv_if_gt ha.1 ha.2.1 hd ht (fun h => absurd h hc) (fun _ => kk lsM hb.2.2)
theorem x_icmp_gt {x y : Int32} {off : Int} {tgt : Nat} (hd : decode J.2.1 pc = .ok (.if_icmp .gt off, 3)) (ht : (pc : Int) + off = (tgt : Int)) (kt : y < x → G X d J M0 tgt ls st M v M') (kf : ¬ y < x → G X d J M0 (pc + 3) ls st M v M') : G X d J M0 pc ls (.int y :: .int x :: st) M v M' := by
  by_cases hc : y < x
  · exact G.by1 (kt hc) fun p e R s m args below meth c H locs lsM cells slots Q ha hb kk => lv_icmp_gt ha.1 ha.2.1 hd ht (fun _ => kk lsM hb.2.2) (fun h => absurd hc (by first | exact h | exact fun z => z h))
  · have hc' : ¬ y < x := by first | exact hc | exact Classical.byContradiction hc
    exact G.by1 (kf hc') fun p e R s m args below meth c H locs lsM cells slots Q ha hb kk => lv_icmp_gt ha.1 ha.2.1 hd ht (fun h => absurd h hc) (fun _ => kk lsM hb.2.2)
theorem x_if_le {x : Int32} {off : Int} {tgt : Nat} (hd : decode J.2.1 pc = .ok (.ifCond .le off, 3)) (ht : (pc : Int) + off = (tgt : Int)) (kt : x ≤ 0 → G X d J M0 tgt ls st M v M') (kf : ¬ x ≤ 0 → G X d J M0 (pc + 3) ls st M v M') : G X d J M0 pc ls (.int x :: st) M v M' := by
  by_cases hc : x ≤ 0
  · exact G.by1 (kt hc) fun p e R s m args below meth c H locs lsM cells slots Q ha hb kk => lv_if_le ha.1 ha.2.1 hd ht (fun _ => kk lsM hb.2.2) (fun h => absurd hc (by first | exact h | exact fun z => z h))
  · have hc' : ¬ x ≤ 0 := by first | exact hc | exact Classical.byContradiction hc
    exact G.by1 (kf hc') fun p e R s m args below meth c H locs lsM cells slots Q ha hb kk => lv_if_le ha.1 ha.2.1 hd ht (fun h => absurd h hc) (fun _ => kk lsM hb.2.2)
theorem x_icmp_le {x y : Int32} {off : Int} {tgt : Nat} (hd : decode J.2.1 pc = .ok (.if_icmp .le off, 3)) (ht : (pc : Int) + off = (tgt : Int)) (kt : x ≤ y → G X d J M0 tgt ls st M v M') (kf : ¬ x ≤ y → G X d J M0 (pc + 3) ls st M v M') : G X d J M0 pc ls (.int y :: .int x :: st) M v M' := by
  by_cases hc : x ≤ y
  · exact G.by1 (kt hc) fun p e R s m args below meth c H locs lsM cells slots Q ha hb kk => lv_icmp_le ha.1 ha.2.1 hd ht (fun _ => kk lsM hb.2.2) (fun h => absurd hc (by first | exact h | exact fun z => z h))
  · have hc' : ¬ x ≤ y := by first | exact hc | exact Classical.byContradiction hc
    exact G.by1 (kf hc') fun p e R s m args below meth c H locs lsM cells slots Q ha hb kk => lv_icmp_le ha.1 ha.2.1 hd ht (fun h => absurd h hc) (fun _ => kk lsM hb.2.2)
theorem x_tabIn {dflt lo hi : Int} {offs : Array Int} {len : Nat} {x : Int32} {off : Int} {tgt : Nat} (hd : decode J.2.1 pc = .ok (.tableswitch dflt lo hi offs, len)) (h1 : ¬ x.toInt < lo) (h2 : ¬ hi < x.toInt) (ho : offs[(x.toInt - lo).toNat]? = some off) (ht : (pc : Int) + off = (tgt : Int)) (k : G X d J M0 tgt ls st M v M') : G X d J M0 pc ls (.int x :: st) M v M' :=
  G.by1 k fun p e R s m args below meth c H locs lsM cells slots Q ha hb kk => lv_tableIn ha.1 ha.2.1 hd h1 h2 ho ht (kk lsM hb.2.2)
theorem x_tabOut {dflt lo hi : Int} {offs : Array Int} {len : Nat} {x : Int32} {tgt : Nat} (hd : decode J.2.1 pc = .ok (.tableswitch dflt lo hi offs, len)) (h : x.toInt < lo ∨ hi < x.toInt) (ht : (pc : Int) + dflt = (tgt : Int)) (k : G X d J M0 tgt ls st M v M') : G X d J M0 pc ls (.int x :: st) M v M' :=
  G.by1 k fun p e R s m args below meth c H locs lsM cells slots Q ha hb kk => lv_tableOut ha.1 ha.2.1 hd h ht (kk lsM hb.2.2)
end LOGIC
end
section
theorem W.sz {p : Program} {l : Launch} {e : Env} {R : Room} {s : State} {m : MethodId} {args : Array Value} {below : List Frame} {meth : Method} {c : Code} {H : Heap} {locs : List Loc} {cells slots : Nat} {Q : State → Prop} {g : JFrame} (k : H.size ≤ s.heap.size + cells → W p l e R s m args below meth c H locs cells slots Q g) : W p l e R s m args below meth c H locs cells slots Q g :=
  fun T hT X => k (by rw [← hT]; exact X.same.2.2.1) T hT X
theorem hp_ge {X : Ev} {M : Hp} {H H0 : Heap} {locs : List Loc} (hP : va_P (ev_D X) cls_ (ws_ X M) H) (hS : va_S (evA X) H0 H locs) (h0 : ev_o X ≤ H0.size) : ev_o X + M.length ≤ H.size := by
  cases hM : M.length with
  | zero => exact Nat.le_trans h0 hS.1
  | succ n =>
    have hn : n < M.length := by omega
    have := (hP n _ (ws_get (X := X) (List.getElem?_eq_getElem hn))).lt
    have h3 : ev_o X + n < H.size := this
    omega
theorem gt_good {w : Cond} (h : w ∈ gt) : (w.onTables && w.keeps) = true ∨ ∃ ty, w = .arrayClass ty := good_of_word (List.mem_filter.mp h).2
theorem gt_in {ws : List Cond} (h : ∀ w ∈ ws, w ∈ gt) : GoodIn gt ws := fun w hw => ⟨h w hw, gt_good (h w hw)⟩
theorem Ro.at {X : Ev} {s U : State} {H : Heap} {locs : List Loc} (h : Ro X s) (hS : va_S (evA X) s.heap H locs) (hU : U.heap = H) (hA : s.vm.Alike U.vm) (hN : (∀ w ∈ nls, va_Nw w s) → ∀ w ∈ nls, va_Nw w U) : Ro X U := by
  obtain ⟨h1, h2, h3, h4, h5⟩ := h
  unfold Ro
  rw [hU]
  exact ⟨(h1.moved hA).kept hS.2.1, (h2.moved hA).kept hS.2.1, (h3.moved hA).kept hS.2.1, h4.moved hA, hN h5⟩
theorem Pk.blind (X : Ev) (M : Hp) (as : List Value) : FrameBlind (va_Pc as (Pk X M)) := by
  intro a U g mk q
  obtain ⟨q0, qP, qK, qz, qR⟩ := q
  exact ⟨q0, qP, va_K.moved (u := U) (U := U.calling g mk a) (Vm.Alike.refl U.vm) qK, qz, Ro.at (s := U) (H := U.heap) (locs := []) qR va_S.rf rfl (Vm.Alike.refl U.vm) (nls_same rfl)⟩
theorem va_callk {X : Ev} {r : Option Value} {M1 : Hp} {p : Program} {l : Launch} {e : Env} {R : Room} {s : State} {m : MethodId} {args : Array Value} {below : List Frame} {meth : Method} {c : Code} {H : Heap} {locs : List Loc} {cells slots : Nat} {Q : State → Prop} {pc : Nat} {ls : Array Slot} {rest st0 : List Value} {a : Array Value} {H0 : Heap} {mc ms : Nat}
    (hr : va_Run p l e R s m args below meth c H locs cells slots mc ms (F0 m pc ls st0) rest (Qk X r M1 a) (evA X)) (hS : va_S (evA X) H0 H locs)
    (kk : ∀ (H1 : Heap) (locs1 : List Loc), va_P (ev_D X) cls_ (ws_ X M1) H1 → va_S (evA X) H0 H1 locs1 → W p l e R s m args below meth c H1 locs1 (cells + mc) (slots + ms) Q (F0 m (pc + 3) ls ((r.map (tv X)).toList ++ rest))) : W p l e R s m args below meth c H locs cells slots Q (F0 m pc ls st0) := by
  intro T hT Y
  obtain ⟨v, st₀, t, T', L, h0, Y', hL, e1, e2, ⟨⟨hv, hp⟩, hz, hk⟩, st⟩ := hr T hT Y
  cases hv
  rw [h0] at hz hk
  obtain ⟨t2, a1, b1⟩ := kk T'.heap (locs ++ L) (by rw [e1]; exact hp)
    ⟨Nat.le_trans hS.1 (by rw [e1]; exact hz), fun q h1 h2 => by rw [e1, hk q (Nat.lt_of_lt_of_le h1 hS.1) h2]; exact hS.2.1 q h1 h2, fun q hq => by
      rcases List.mem_append.mp hq with h | h
      · exact hS.2.2 q h
      · exact hL q h⟩ T' rfl Y'
  exact ⟨t2, st t2 a1, b1⟩
section HEAPROWS
variable {X : Ev} {d : Nat} {J : Jt} {M0 M M' : Hp} {pc : Nat} {ls : List (Option Value)} {st : List Value} {v : Option Value}
theorem x_getf {i ci kf a : Nat} {fs : List Value} {w : Value} {C : String} {T : u_T} {N : Nat} (hd : decode J.2.1 pc = .ok (.getfield i, 3)) (hc : cls_[ci]? = some (C, T, N)) (hu : ∀ w ∈ u_ws C T N, w ∈ gt) (hk : kf < N) (hlk : Cond.fieldLink J.1.cls i (T kf).1 (T kf).2.1 (T kf).2.2.1 ∈ gt)
    (hM : M[a]? = some (.inr (ci, fs))) (hv : fs[kf]? = some w) (k : G X d J M0 (pc + 3) ls (w :: st) M v M') : G X d J M0 pc ls (.ref a :: st) M v M' :=
  G.by1 k fun p e R s m args below meth c H locs lsM cells slots Q ha hb kk => va_get (D := ev_D X) ha.1 ha.2.1 ha.2.2.2.2.2.2.2.1 hu ha.2.2.2.2.2.2.1 ha.2.2.2.2.2.2.2.2.2.2.1 hb.1 a (ws_get hM) hc kf hk (ha.2.2.2.2.2.2.2.1 _ hlk) (fun _ h => h) (v := tv X w) (by rw [List.getElem?_map, hv]; rfl) hd (kk lsM hb.2.2)
theorem x_putf {i ci kf a : Nat} {fs : List Value} {w : Value} {C : String} {T : u_T} {N : Nat} {ty0 : Nat → FieldType} {ty : FieldType} {M1 : Hp} (hd : decode J.2.1 pc = .ok (.putfield i, 3)) (hc : cls_[ci]? = some (C, T, N)) (hu : ∀ w ∈ u_ws C T N, w ∈ gt) (hty : ∀ k, k < N → parseFieldDescriptor (T k).2.2.1 = some (ty0 k)) (hnm : ∀ a, a < N → ∀ b, b < N → a ≠ b → (T a).2.1 ≠ (T b).2.1) (hk : kf < N) (hlk : Cond.fieldLink J.1.cls i (T kf).1 (T kf).2.1 (T kf).2.2.1 ∈ gt)
    (hfin : (T kf).2.2.2 = false) (hdt : parseFieldDescriptor (T kf).2.2.1 = some ty) (hn : narrow ty (tv X w) = tv X w) (hfit : fits ty (tv X w) = true) (hM : M[a]? = some (.inr (ci, fs))) (hl : kf < fs.length) (hM1 : M.set a (.inr (ci, fs.set kf w)) = M1) (k : G X d J M0 (pc + 3) ls st M1 v M') : G X d J M0 pc ls (w :: .ref a :: st) M v M' := by
  subst hM1
  exact G.by2 k (by simp) (sl_set M a _ _ hM (by simp [csz])) fun p e R s m args below meth c H locs lsM cells slots Q ha hb kk => va_put (D := ev_D X) ha.1 ha.2.1 ha.2.2.2.2.2.2.2.1 hu ty0 hty hnm ha.2.2.2.2.2.2.1 ha.2.2.2.2.2.2.2.2.2.2.1 hb.1 (ws_D X M) hb.2.1 a (ws_get hM) hc kf hk (ha.2.2.2.2.2.2.2.1 _ hlk) (fun _ h => h) hfin hdt hn hfit (by simpa using hl) hd (fun H1 locs1 hP _ hS => kk H1 locs1 (by rw [← ws_set]; simpa [te, List.map_set] using hP) hS)
theorem x_putF {i ci kf a : Nat} {fs : List Value} {w : Value} {C : String} {T : u_T} {N : Nat} {ty0 : Nat → FieldType} {ty : FieldType} {M1 : Hp} (hd : decode J.2.1 pc = .ok (.putfield i, 3)) (hc : cls_[ci]? = some (C, T, N)) (hu : ∀ w ∈ u_ws C T N, w ∈ gt) (hty : ∀ k, k < N → parseFieldDescriptor (T k).2.2.1 = some (ty0 k)) (hnm : ∀ a, a < N → ∀ b, b < N → a ≠ b → (T a).2.1 ≠ (T b).2.1) (hk : kf < N) (hlk : Cond.fieldLink J.1.cls i (T kf).1 (T kf).2.1 (T kf).2.2.1 ∈ gt)
    (hfin : (T kf).2.2.2 = true) (hin : J.1.name = "<init>") (hdc : (T kf).1 = J.1.cls) (hdt : parseFieldDescriptor (T kf).2.2.1 = some ty) (hn : narrow ty (tv X w) = tv X w) (hfit : fits ty (tv X w) = true) (hM : M[a]? = some (.inr (ci, fs))) (hl : kf < fs.length) (hM1 : M.set a (.inr (ci, fs.set kf w)) = M1) (k : G X d J M0 (pc + 3) ls st M1 v M') : G X d J M0 pc ls (w :: .ref a :: st) M v M' := by
  subst hM1
  exact G.by2 k (by simp) (sl_set M a _ _ hM (by simp [csz])) fun p e R s m args below meth c H locs lsM cells slots Q ha hb kk => va_putF (D := ev_D X) ha.1 ha.2.1 ha.2.2.2.2.2.2.2.1 hu ty0 hty hnm ha.2.2.2.2.2.2.1 ha.2.2.2.2.2.2.2.2.2.2.1 hb.1 (ws_D X M) hb.2.1 a (ws_get hM) hc kf hk (ha.2.2.2.2.2.2.2.1 _ hlk) (fun _ h => h) hfin (ha.2.2.2.2.2.1 hin) hdc hdt hn hfit (by simpa using hl) hd (fun H1 locs1 hP _ hS => kk H1 locs1 (by rw [← ws_set]; simpa [te, List.map_set] using hP) hS)
theorem x_gets {i : Nat} (hd : decode J.2.1 pc = .ok (.getstatic i, 3)) (hlk : Cond.fieldLink J.1.cls i "PageMender$Field" "POLYNOMIALS" "[I" ∈ gt) (k : G X d J M0 (pc + 3) ls (.retAddr 1 :: st) M v M') : G X d J M0 pc ls st M v M' :=
  G.by1 k fun p e R s m args below meth c H locs lsM cells slots Q ha hb kk => va_gets (ref := "PageMender$Field") ha.1 ha.2.1 ha.2.2.2.2.2.2.2.2.2.2.2.1.2.2.1 hb.2.1 ha.2.2.2.2.2.2.1 (ha.2.2.2.2.2.2.2.1 _ hlk) (fun _ h => h) hd (kk lsM hb.2.2)
theorem x_pald {i : Int32} {j : Nat} (hd : decode J.2.1 pc = .ok (.iaload, 1)) (hi : i = nI j) (hj : j < 11) (k : G X d J M0 (pc + 1) ls (.int (pols j) :: st) M v M') : G X d J M0 pc ls (.int i :: .retAddr 1 :: st) M v M' := by
  subst hi
  exact G.by1 k fun p e R s m args below meth c H locs lsM cells slots Q ha hb kk => va_ti ha.1 ha.2.1 ha.2.2.2.2.2.2.2.2.2.2.2.1.2.1 hb.2.1 (vp_in_nI hj (by decide)) (by rw [nI_clamp (by omega)]; rfl) hd (kk lsM hb.2.2)
theorem x_sald {i : Int32} {j : Nat} (hd : decode J.2.1 pc = .ok (.iaload, 1)) (hi : i = nI j) (hj : j < ev_L X) (hL : ev_L X < 2 ^ 31) (k : G X d J M0 (pc + 1) ls (.int (ev_x X j) :: st) M v M') : G X d J M0 pc ls (.int i :: .retAddr 0 :: st) M v M' := by
  subst hi
  exact G.by1 k fun p e R s m args below meth c H locs lsM cells slots Q ha hb kk => va_ti ha.1 ha.2.1 ha.2.2.2.2.2.2.2.2.2.2.2.1.1 hb.2.1 (vp_in_nI hj hL) (by rw [nI_clamp (by omega)]; rfl) hd (kk lsM hb.2.2)
theorem x_slen (hd : decode J.2.1 pc = .ok (.arraylength, 1)) (k : G X d J M0 (pc + 1) ls (.int (nI (ev_L X)) :: st) M v M') : G X d J M0 pc ls (.retAddr 0 :: st) M v M' :=
  G.by1 k fun p e R s m args below meth c H locs lsM cells slots Q ha hb kk => va_tlen ha.1 ha.2.1 ha.2.2.2.2.2.2.2.2.2.2.2.1.1 hb.2.1 rfl hd (kk lsM hb.2.2)
theorem x_alen {a t n : Nat} {x : vp_A} (hd : decode J.2.1 pc = .ok (.arraylength, 1)) (ht : t < 4) (hM : M[a]? = some (.inl (t, x))) (hn : x.1 = n) (k : G X d J M0 (pc + 1) ls (.int (nI n) :: st) M v M') : G X d J M0 pc ls (.ref a :: st) M v M' :=
  G.by1 k fun p e R s m args below meth c H locs lsM cells slots Q ha hb kk => by
    have h : ∃ ty, (tys_ X)[t]? = some (ev_k X t, ty) := by
      match t, ht with
      | 0, _ => exact ⟨_, rfl⟩
      | 1, _ => exact ⟨_, rfl⟩
      | 2, _ => exact ⟨_, rfl⟩
      | 3, _ => exact ⟨_, rfl⟩
    obtain ⟨ty, h⟩ := h
    exact va_alen (D := ev_D X) ha.1 ha.2.1 ha.2.2.2.2.2.2.2.2.2.2.1 hb.1 a t (ws_get hM) h (by rw [ta_1, hn]; rfl) hd (kk lsM hb.2.2)
theorem x_ild {a j n : Nat} {i : Int32} {f : Nat → Int32} (hd : decode J.2.1 pc = .ok (.iaload, 1)) (hM : M[a]? = some (.inl (0, n, .inl f))) (hi : i = nI j) (hj : j < n) (hn : n < 2 ^ 31) (k : G X d J M0 (pc + 1) ls (.int (f j) :: st) M v M') : G X d J M0 pc ls (.int i :: .ref a :: st) M v M' := by
  subst hi
  exact G.by1 k fun p e R s m args below meth c H locs lsM cells slots Q ha hb kk => va_iald (D := ev_D X) ha.1 ha.2.1 ha.2.2.2.2.2.2.2.2.2.2.1 hb.1 a 0 (ws_get hM) rfl (vp_in_nI hj hn) hd (by rw [nI_clamp (by omega)]; exact kk lsM hb.2.2)
theorem x_lld {a j n : Nat} {i : Int32} {f : Nat → Int64} (hd : decode J.2.1 pc = .ok (.laload, 1)) (hM : M[a]? = some (.inl (1, n, .inr (.inl f)))) (hi : i = nI j) (hj : j < n) (hn : n < 2 ^ 31) (k : G X d J M0 (pc + 1) ls (.long (f j) :: st) M v M') : G X d J M0 pc ls (.int i :: .ref a :: st) M v M' := by
  subst hi
  exact G.by1 k fun p e R s m args below meth c H locs lsM cells slots Q ha hb kk => va_lald (D := ev_D X) ha.1 ha.2.1 ha.2.2.2.2.2.2.2.2.2.2.1 hb.1 a 1 (ws_get hM) rfl (vp_in_nI hj hn) hd (by rw [nI_clamp (by omega)]; exact kk lsM hb.2.2)
theorem x_zld {a j n : Nat} {i : Int32} {f : Nat → Int32} (hd : decode J.2.1 pc = .ok (.baload, 1)) (hM : M[a]? = some (.inl (2, n, .inl f))) (hi : i = nI j) (hj : j < n) (hn : n < 2 ^ 31) (k : G X d J M0 (pc + 1) ls (.int (f j) :: st) M v M') : G X d J M0 pc ls (.int i :: .ref a :: st) M v M' := by
  subst hi
  exact G.by1 k fun p e R s m args below meth c H locs lsM cells slots Q ha hb kk => va_zald (D := ev_D X) ha.1 ha.2.1 ha.2.2.2.2.2.2.2.2.2.2.1 hb.1 a 2 (ws_get hM) rfl (vp_in_nI hj hn) hd (by rw [nI_clamp (by omega)]; exact kk lsM hb.2.2)
theorem x_ist {a j n : Nat} {i : Int32} {x : Int32} {f : Nat → Int32} {M1 : Hp} (hd : decode J.2.1 pc = .ok (.iastore, 1)) (hM : M[a]? = some (.inl (0, n, .inl f))) (hi : i = nI j) (hj : j < n) (hn : n < 2 ^ 31) (hM1 : M.set a (.inl (0, n, .inl (upd f j x))) = M1) (k : G X d J M0 (pc + 1) ls st M1 v M') : G X d J M0 pc ls (.int x :: .int i :: .ref a :: st) M v M' := by
  subst hi
  subst hM1
  exact G.by2 k (by simp) (sl_set M a _ _ hM (by simp [csz])) fun p e R s m args below meth c H locs lsM cells slots Q ha hb kk => va_iast (D := ev_D X) ha.1 ha.2.1 ha.2.2.2.2.2.2.2.2.2.2.1 hb.1 (ws_D X M) hb.2.1 a 0 (ws_get hM) rfl (vp_in_nI hj hn) hd (fun H1 locs1 hP _ hS => kk H1 locs1 (by rw [nI_clamp (by omega)] at hP; rw [← ws_set]; exact hP) hS)
theorem x_lst {a j n : Nat} {i : Int32} {x : Int64} {f : Nat → Int64} {M1 : Hp} (hd : decode J.2.1 pc = .ok (.lastore, 1)) (hM : M[a]? = some (.inl (1, n, .inr (.inl f)))) (hi : i = nI j) (hj : j < n) (hn : n < 2 ^ 31) (hM1 : M.set a (.inl (1, n, .inr (.inl (vp_updL f j x)))) = M1) (k : G X d J M0 (pc + 1) ls st M1 v M') : G X d J M0 pc ls (.long x :: .int i :: .ref a :: st) M v M' := by
  subst hi
  subst hM1
  exact G.by2 k (by simp) (sl_set M a _ _ hM (by simp [csz])) fun p e R s m args below meth c H locs lsM cells slots Q ha hb kk => va_last (D := ev_D X) ha.1 ha.2.1 ha.2.2.2.2.2.2.2.2.2.2.1 hb.1 (ws_D X M) hb.2.1 a 1 (ws_get hM) rfl (vp_in_nI hj hn) hd (fun H1 locs1 hP _ hS => kk H1 locs1 (by rw [nI_clamp (by omega)] at hP; rw [← ws_set]; exact hP) hS)
theorem x_zst {a j n : Nat} {i : Int32} {x : Int32} {f : Nat → Int32} {M1 : Hp} (hd : decode J.2.1 pc = .ok (.bastore, 1)) (hM : M[a]? = some (.inl (2, n, .inl f))) (hi : i = nI j) (hj : j < n) (hn : n < 2 ^ 31) (hM1 : M.set a (.inl (2, n, .inl (upd f j (vp_nar .boolean x)))) = M1) (k : G X d J M0 (pc + 1) ls st M1 v M') : G X d J M0 pc ls (.int x :: .int i :: .ref a :: st) M v M' := by
  subst hi
  subst hM1
  exact G.by2 k (by simp) (sl_set M a _ _ hM (by simp [csz])) fun p e R s m args below meth c H locs lsM cells slots Q ha hb kk => va_zast (D := ev_D X) ha.1 ha.2.1 ha.2.2.2.2.2.2.2.2.2.2.1 hb.1 (ws_D X M) hb.2.1 a 2 (ws_get hM) rfl (vp_in_nI hj hn) hd (fun H1 locs1 hP _ hS => kk H1 locs1 (by rw [nI_clamp (by omega)] at hP; rw [← ws_set]; exact hP) hS)
theorem x_ald {a j n r : Nat} {i : Int32} {f : Nat → Option Nat} (hd : decode J.2.1 pc = .ok (.aaload, 1)) (hM : M[a]? = some (.inl (3, n, .inr (.inr (.inr (.inr f)))))) (hi : i = nI j) (hj : j < n) (hn : n < 2 ^ 31) (hr : f j = some r) (k : G X d J M0 (pc + 1) ls (.ref r :: st) M v M') : G X d J M0 pc ls (.int i :: .ref a :: st) M v M' := by
  subst hi
  exact G.by1 k fun p e R s m args below meth c H locs lsM cells slots Q ha hb kk => va_aldq (D := ev_D X) ha.1 ha.2.1 ha.2.2.2.2.2.2.2.2.2.2.1 hb.1 a 3 (ws_get hM) rfl (vp_in_nI hj hn) hd (by
    have h2 := kk lsM hb.2.2
    rw [nI_clamp (by omega), hr]
    exact h2)
theorem x_ast {a j n r : Nat} {i : Int32} {f : Nat → Option Nat} {fs : List Value} {M1 : Hp} (hd : decode J.2.1 pc = .ok (.aastore, 1)) (hM : M[a]? = some (.inl (3, n, .inr (.inr (.inr (.inr f)))))) (hr : M[r]? = some (.inr (3, fs))) (hi : i = nI j) (hj : j < n) (hn : n < 2 ^ 31) (hM1 : M.set a (.inl (3, n, .inr (.inr (.inr (.inr (va_up f j (some r))))))) = M1) (k : G X d J M0 (pc + 1) ls st M1 v M') : G X d J M0 pc ls (.ref r :: .int i :: .ref a :: st) M v M' := by
  subst hi
  subst hM1
  exact G.by2 k (by simp) (sl_set M a _ _ hM (by simp [csz])) fun p e R s m args below meth c H locs lsM cells slots Q ha hb kk => va_astq (D := ev_D X) ha.1 ha.2.1 ha.2.2.2.2.2.2.2.2.2.2.1 hb.1 (ws_D X M) hb.2.1 a 3 r 3 (r := (RX4, TX4, 4)) (ws_get hM) rfl (ws_get hr) rfl (vp_in_nI hj hn) hd (fun H1 locs1 hP _ hS => kk H1 locs1 (by
      rw [nI_clamp (by omega)] at hP
      rw [← ws_set]
      have e1 : (fun q => (va_up f j (some r) q).map (fun i => ev_o X + i)) = va_up (fun q => (f q).map (fun i => ev_o X + i)) j (some (ev_o X + r)) := by
        funext q
        by_cases h : q = j
        · subst h; simp [va_up]
        · simp [va_up, h]
      simp only [te, ta, e1]
      exact hP) hS)
theorem G.by3 {cel : Cel} {pc' : Nat} {st' : List Value} (k : G X d J M0 pc' ls st' (M ++ [cel]) v M')
    (h : ∀ (p : Program) (e : Env) (R : Room) (s : State) (m : MethodId) (args : Array Value) (below : List Frame) (meth : Method) (c : Code) (H : Heap) (locs : List Loc) (lsM : Array Slot) (cells slots : Nat) (Q : State → Prop), Ca X d J M0 p R s m args meth c → Cb X J s M ls H locs lsM → H.size = ev_o X + M.length → cells + 1 ≤ R.cells → slots + csz cel ≤ R.slots →
      (∀ (H1 : Heap), va_P (ev_D X) cls_ (ws_ X M ++ [(H.size, te X cel)]) H1 → va_S (evA X) s.heap H1 locs → W p (ev_l X) e R s m args below meth c H1 locs (cells + 1) (slots + csz cel) Q (F0 m pc' lsM (st'.map (tv X)))) → W p (ev_l X) e R s m args below meth c H locs cells slots Q (F0 m pc lsM (st.map (tv X)))) : G X d J M0 pc ls st M v M' := by
  have hl1 : M.length + 1 ≤ M'.length := by have := k.1.1; simpa using this
  have hs1 : sl M + csz cel ≤ sl M' := by have := k.1.2; rw [sl_push] at this; exact this
  refine ⟨⟨by omega, by omega⟩, fun hL p e R s m args below meth c H locs lsM ha hr hb => W.sz fun hz => ?_⟩
  have h0 : ev_o X ≤ s.heap.size := by rw [ha.2.2.2.2.2.2.2.2.2.2.2.2]; omega
  have hge := hp_ge hb.1 hb.2.1 h0
  have hz2 : H.size = ev_o X + M.length := by
    have h5 := ha.2.2.2.2.2.2.2.2.2.2.2.2
    have h6 := hL.1
    omega
  have h7 := hL.1
  have h8 := hL.2
  have hr1 := hr.1
  have hr2 := hr.2
  refine h p e R s m args below meth c H locs lsM _ _ _ ha hb hz2 (by omega) (by omega) (fun H1 hP hS => ?_)
  have h9 := k.2 ⟨by simp; omega, by rw [sl_push]; omega⟩ p e R s m args below meth c H1 locs lsM ha hr ⟨by rw [← ws_push, ← hz2]; exact hP, hS, hb.2.2⟩
  rw [sl_push, List.length_append, List.length_singleton, show M.length + 1 - M0.length = M.length - M0.length + 1 by omega, show sl M + csz cel - sl M0 = sl M - sl M0 + csz cel by omega] at h9
  exact h9
theorem x_new {i ci : Nat} {C : String} {T : u_T} {N : Nat} {ty : Nat → FieldType} {fs : List Value} (hd : decode J.2.1 pc = .ok (.new i, 3)) (hc : cls_[ci]? = some (C, T, N)) (hu : ∀ w ∈ u_ws C T N, w ∈ gt) (hty : ∀ k, k < N → parseFieldDescriptor (T k).2.2.1 = some (ty k)) (hcl : Cond.classLink J.1.cls i C ∈ gt) (hinst : Cond.instantiable C N ∈ gt) (hini : Cond.initialized C ∈ gt)
    (hfs : ∀ j, j < N → defaultValue (ty j) = vp_V fs j) (hlen : fs.length = N) (htv : fs.map (tv X) = fs) (k : G X d J M0 (pc + 3) ls (.ref M.length :: st) (M ++ [.inr (ci, fs)]) v M') : G X d J M0 pc ls st M v M' :=
  G.by3 k fun p e R s m args below meth c H locs lsM cells slots Q ha hb hz h1 h2 kk => by
    have hK := ha.2.2.2.2.2.2.2.2.2.2.1
    have hKn := hK.1 ci _ hc
    have hts := ha.2.2.2.2.2.2.2.1
    have h2' : slots + N ≤ R.slots := by simpa [csz, hlen] using h2
    refine W.newcK ha.1 ha.2.1 ha.2.2.2.2.2.2.1 (hts _ hcl) (hts _ hinst) (hts _ hini) rfl hd h1 h2' hKn.2.1 rfl fun H1 kC hkC e1 z1 o1 => ?_
    have hk : ∀ (k : Nat) (x : Nat × va_E), (ws_ X M)[k]? = some x → H1[x.1]? = H[x.1]? := fun k x hx => o1 x.1 ((hb.1 k x hx).lt)
    have h3 := kk H1 ((hb.1.kept hk).app (fun k x hx => by
      have hz0 : k < 1 := (List.getElem?_eq_some_iff.mp hx).1
      rw [show k = 0 by omega] at hx
      cases hx
      refine ⟨_, hc, ?_⟩
      simp only [te, htv]
      exact (u_born ty hts hu hKn hkC e1 hty).to hfs)) ⟨Nat.le_trans hb.2.1.1 (by omega), fun x g1 g2 => (o1 x (Nat.lt_of_lt_of_le g1 hb.2.1.1)).trans (hb.2.1.2.1 x g1 g2), hb.2.1.2.2⟩
    simp only [csz, hlen] at h3
    rw [hz]
    exact h3
theorem ra_id {U : State} {c c' : ClassId} {ty : FieldType} (h : va_RA U c ty) (h2 : U.vm.findClass ("[" ++ ty.toString) = some c') : c' = c := by
  cases ty with
  | object C =>
    obtain ⟨kA, comp, g1, g2, g3, g4⟩ := h
    rw [g4] at h2
    exact (Option.some.inj h2).symm
  | _ => exact (Option.some.inj (Eq.trans (Eq.symm h) h2)).symm
theorem x_newa {t N : Nat} {n : Int32} {at_ : ArrayType} {ty : FieldType} {a0 : vp_A} (hd : decode J.2.1 pc = .ok (.newarray at_, 2)) (hty : newarray.typeOf at_ = ty) (ht : (tys_ X)[t]? = some (ev_k X t, ty)) (hw : Cond.arrayClass ty ∈ gt) (ha0 : ∀ cA : ClassId, vp_cell cA a0 = arrV cA N (fun _ => defaultValue ty)) (hta : ta X a0 = a0) (hN1 : a0.1 = N) (hn : n = nI N) (hN : N < 2 ^ 20) (hby : componentBytes ty ≤ 8)
    (k : G X d J M0 (pc + 2) ls (.ref M.length :: st) (M ++ [.inl (t, a0)]) v M') : G X d J M0 pc ls (.int n :: st) M v M' :=
  G.by3 k fun p e R s m args below meth c H locs lsM cells slots Q ha hb hz h1 h2 kk => by
    subst hty
    subst hn
    have hK := ha.2.2.2.2.2.2.2.2.2.2.1
    have hts := ha.2.2.2.2.2.2.2.1
    have h2' : slots + N ≤ R.slots := by simpa [csz, hN1] using h2
    have hb8 : N * componentBytes (newarray.typeOf at_) ≤ 536870912 := by
      have := Nat.mul_le_mul (Nat.le_of_lt hN) hby
      omega
    refine va_newaK (N := N) ha.1 ha.2.1 (hts _ hw) rfl hd rfl (nI_pos (by omega)) (nI_clamp (by omega)) hb8 h1 h2' rfl fun H1 cA e1 z1 o1 hAr hNm => ?_
    have hcA : cA = ev_k X t := ra_id (hK.2 t _ ht).2 hNm
    have hk : ∀ (k : Nat) (x : Nat × va_E), (ws_ X M)[k]? = some x → H1[x.1]? = H[x.1]? := fun k x hx => o1 x.1 ((hb.1 k x hx).lt)
    have h3 := kk H1 ((hb.1.kept hk).app (fun k x hx => by
      have hz0 : k < 1 := (List.getElem?_eq_some_iff.mp hx).1
      rw [show k = 0 by omega] at hx
      cases hx
      show H1[H.size]? = some (vp_cell _ _)
      rw [hta, ha0, ← hcA]
      exact e1)) ⟨Nat.le_trans hb.2.1.1 (by omega), fun x g1 g2 => (o1 x (Nat.lt_of_lt_of_le g1 hb.2.1.1)).trans (hb.2.1.2.1 x g1 g2), hb.2.1.2.2⟩
    simp only [csz, hN1] at h3
    rw [hz]
    exact h3
theorem x_newq {i N : Nat} {n : Int32} (hd : decode J.2.1 pc = .ok (.anewarray i, 3)) (hcl : Cond.classLink J.1.cls i "PageMender$Page" ∈ gt) (hn : n = nI N) (hN : N < 2 ^ 20)
    (k : G X d J M0 (pc + 3) ls (.ref M.length :: st) (M ++ [.inl (3, N, .inr (.inr (.inr (.inr (fun _ => none)))))]) v M') : G X d J M0 pc ls (.int n :: st) M v M' :=
  G.by3 k fun p e R s m args below meth c H locs lsM cells slots Q ha hb hz h1 h2 kk => by
    subst hn
    have hK := ha.2.2.2.2.2.2.2.2.2.2.1
    have hts := ha.2.2.2.2.2.2.2.1
    have hcl' : (nI N).toNatClampNeg = N := nI_clamp (by omega)
    refine W.anew ha.1 ha.2.1 ha.2.2.2.2.2.2.1 (hts _ hcl) (va_AO.use ha.2.2.2.2.2.2.2.2.2.2.2.1.2.2.2.1) rfl hd rfl (nI_pos (by omega)) (by rw [hcl']; omega) h1 (by rw [hcl']; exact h2) fun cA kA comp f1 f2 f3 f4 => ?_
    have hcA : cA = ev_k X 3 := ra_id (hK.2 3 (ev_k X 3, .object "PageMender$Page") rfl).2 f1
    rw [hcl']
    generalize hH1 : H.push ({ cls := cA, slots := Array.replicate N .null, vm := .none } : Cell) = H1
    have z1 : H1.size = H.size + 1 := by rw [← hH1, Array.size_push]
    have e1 : H1[H.size]? = some (arrV cA N (fun _ => .null)) := by rw [← hH1, Array.getElem?_push_size, ← arrV_new]
    have o1 : ∀ q : Nat, q < H.size → H1[q]? = H[q]? := fun q hq => by rw [← hH1, Array.getElem?_push, if_neg (Nat.ne_of_lt hq)]
    have hk : ∀ (k : Nat) (x : Nat × va_E), (ws_ X M)[k]? = some x → H1[x.1]? = H[x.1]? := fun k x hx => o1 x.1 ((hb.1 k x hx).lt)
    have h3 := kk H1 ((hb.1.kept hk).app (fun k x hx => by
      have hz0 : k < 1 := (List.getElem?_eq_some_iff.mp hx).1
      rw [show k = 0 by omega] at hx
      cases hx
      show H1[H.size]? = some (vp_cell _ _)
      rw [e1, hcA]
      rfl)) ⟨Nat.le_trans hb.2.1.1 (by omega), fun x g1 g2 => (o1 x (Nat.lt_of_lt_of_le g1 hb.2.1.1)).trans (hb.2.1.2.1 x g1 g2), hb.2.1.2.2⟩
    rw [show (F0 m (pc + 3) lsM (List.map (tv X) (Value.ref M.length :: st))) = F0 m (pc + 3) lsM (.ref H.size :: st.map (tv X)) by rw [hz]; rfl] at h3
    exact h3
theorem x_ret (hd : decode J.2.1 pc = .ok (.return_, 1)) (hr : J.2.2.2 = none) : G X d J M0 pc ls [] M none M :=
  ⟨Le.rf M, fun hL p e R s m args below meth c H locs lsM ha hrr hb => by
    have hlocks : meth.locks = false := ha.2.2.2.2.1
    exact W.vret ha.1 ha.2.1 (ha.2.2.2.1.trans hr) (fun t ht hW => ⟨⟨rfl, by rw [ht]; exact hb.1⟩, hb.2.1.F ht⟩) hb.2.1.2.2 hd⟩
theorem x_ireturn {x : Int32} (hd : decode J.2.1 pc = .ok (.ireturn, 1)) (hr : J.2.2.2 = some .int) : G X d J M0 pc ls [.int x] M (some (.int x)) M :=
  ⟨Le.rf M, fun hL p e R s m args below meth c H locs lsM ha hrr hb => by
    have hlocks : meth.locks = false := ha.2.2.2.2.1
    exact W.iret ha.1 ha.2.1 (ha.2.2.2.1.trans hr) (fun t ht hW => ⟨⟨rfl, by rw [ht]; exact hb.1⟩, hb.2.1.F ht⟩) hb.2.1.2.2 hd⟩
theorem x_zreturn {x : Int32} (hd : decode J.2.1 pc = .ok (.ireturn, 1)) (hr : J.2.2.2 = some .boolean) (hn : narrow .boolean (.int x) = .int x) : G X d J M0 pc ls [.int x] M (some (.int x)) M :=
  ⟨Le.rf M, fun hL p e R s m args below meth c H locs lsM ha hrr hb => by
    have hlocks : meth.locks = false := ha.2.2.2.2.1
    exact W.zret ha.1 ha.2.1 (ha.2.2.2.1.trans hr) hn (fun t ht hW => ⟨⟨rfl, by rw [ht]; exact hb.1⟩, hb.2.1.F ht⟩) hb.2.1.2.2 hd⟩
theorem cat_sum (X : Ev) (st : List Value) : ((st.map (tv X)).map fun v => v.category).sum = (st.map fun v => v.category).sum := by
  rw [List.map_map]
  congr 1
  exact List.map_congr_left (fun v _ => tv_cat X v)
theorem x_objInit {i a : Nat} (hd : decode J.2.1 pc = .ok (.invokespecial i, 3)) (hlk : Cond.methodLink J.1.cls i objectInit ∈ gt) (hin : Cond.instanceMethod objectInit ∈ gt) (hco : Cond.code objectInit ⟨#[0xb1]⟩ 1 none ∈ gt) (hdd : 1 ≤ d) (hsum : (st.map fun v => v.category).sum ≤ 8) (k : G X d J M0 (pc + 3) ls st M v M') : G X d J M0 pc ls (.ref a :: st) M v M' :=
  G.by1 k fun p e R s m args below meth c H locs lsM cells slots Q ha hb kk => by
    have hts := ha.2.2.2.2.2.2.2.1
    have h1 := ha.2.2.2.2.2.2.2.2.1
    have h2 := ha.2.2.2.2.2.2.2.2.2.1
    refine W.objInit ha.1 ha.2.1 ha.2.2.2.2.2.2.1 (hts _ hlk) (hts _ hin) (hts _ hco) rfl (by rw [ha.2.2.1]; exact hb.2.2.1) rfl hd (by omega) ?_ (kk lsM hb.2.2)
    have h3 := lv_room (m := m) (pc := pc) (ls := lsM) (rest := st.map (tv X)) (st := st.map (tv X)) (by rw [cat_sum]; exact hsum)
    have h4 : (F0 m pc lsM (List.map (tv X) (Value.ref a :: st))).monitorRoom = (F0 m pc lsM (st.map (tv X))).monitorRoom := rfl
    rw [h4]
    omega
/-- what the tables must say of a method that is called: n parameters -/
def Mk (J : Jt) (n : Nat) : Prop := Cond.code J.1 J.2.1 J.2.2.1 J.2.2.2 ∈ gt ∧ Cond.initialized J.1.cls ∈ gt ∧ J.1.cls ≠ "java/lang/invoke/MethodHandle" ∧ J.1.cls ≠ "java/lang/invoke/VarHandle" ∧ (parseMethodDescriptor J.1.desc).map (fun d => d.parameters.length) = some n ∧ J.2.2.1 ≤ 9
theorem jw_in {J : Jt} {n : Nat} (h : Mk J n) : ∀ w ∈ jw J, w ∈ gt := fun w hw => by
  rcases List.mem_cons.mp hw with h1 | h1
  · rw [h1]; exact h.1
  · exact h1
theorem callB_k {J' : Jt} {n d' : Nat} {R : Room} {s : State} {args : Array Value} {own : String} {i mc ms : Nat} (hm : Mk J' n) (hts : ∀ w ∈ gt, w.before args s = true) (hlk : Cond.methodLink own i J'.1 ∈ gt) (hR : d' + 1 ≤ R.frames ∧ 28 * (d' + 1) ≤ R.locals) :
    CallB R s args own i J'.1 J'.2.1 J'.2.2.1 J'.2.2.2 (jw J') { frames := d', cells := mc, slots := ms, locals := 28 * d' } mc ms n :=
  callB_of n hts (gt_in (jw_in hm)) rfl rfl rfl (hts _ hm.2.1) (hts _ hlk) ⟨hm.2.2.1, hm.2.2.2.1, hm.2.2.2.2.1⟩ ⟨hR.1, by
    have := hm.2.2.2.2.2
    have := hR.2
    show 8 + (J'.2.2.1 + 11) + 28 * d' ≤ R.locals
    omega⟩
theorem G.by4 {J' : Jt} {d' : Nat} {as : List Value} {r : Option Value} {M1 : Hp} {st0 : List Value} (hC : Cl X d' J' as M r M1) (k : G X d J M0 (pc + 3) ls (r.toList ++ st) M1 v M')
    (h : ∀ (p : Program) (e : Env) (R : Room) (s : State) (m : MethodId) (args : Array Value) (below : List Frame) (meth : Method) (c : Code) (H : Heap) (locs : List Loc) (lsM : Array Slot) (cells slots : Nat), Ca X d J M0 p R s m args meth c → Cb X J s M ls H locs lsM → PreS s H (va_Pc (as.map (tv X)) (Pk X M)) (as.map (tv X)) → cells + (M1.length - M.length) ≤ R.cells ∧ slots + (sl M1 - sl M) ≤ R.slots →
      va_Run p (ev_l X) e R s m args below meth c H locs cells slots (M1.length - M.length) (sl M1 - sl M) (F0 m pc lsM (st0.map (tv X))) (st.map (tv X)) (Qk X r M1 (as.map (tv X)).toArray) (evA X)) : G X d J M0 pc ls st0 M v M' := by
  refine ⟨hC.1.tr k.1, fun hL p e R s m args below meth c H locs lsM ha hr hb => W.sz fun hz => ?_⟩
  have h0 : ev_o X ≤ s.heap.size := by rw [ha.2.2.2.2.2.2.2.2.2.2.2.2]; omega
  have hge := hp_ge hb.1 hb.2.1 h0
  have h5 := ha.2.2.2.2.2.2.2.2.2.2.2.2
  have h6 := hL.1
  have h7 := hL.2
  have h8 := hC.1.1
  have h9 := hC.1.2
  have g1 := k.1.1
  have g2 := k.1.2
  have g3 := hr.1
  have g4 := hr.2
  have hz2 : H.size = ev_o X + M.length := by omega
  have hpre : PreS s H (va_Pc (as.map (tv X)) (Pk X M)) (as.map (tv X)) := ⟨Pk.blind X M _, fun U hU hW => ⟨rfl, by rw [hU]; exact hb.1, va_K.moved hW.alike ha.2.2.2.2.2.2.2.2.2.2.1, by rw [hU]; exact hz2, Ro.at ha.2.2.2.2.2.2.2.2.2.2.2.1 hb.2.1 hU hW.alike (nls_warm hW)⟩⟩
  refine va_callk (h p e R s m args below meth c H locs lsM _ _ ha hb hpre ⟨by omega, by omega⟩) hb.2.1 (fun H1 locs1 hP hS => ?_)
  have h10 := k.2 ⟨by omega, by omega⟩ p e R s m args below meth c H1 locs1 lsM ha hr ⟨hP, hS, hb.2.2⟩
  rw [show M.length - M0.length + (M1.length - M.length) = M1.length - M0.length by omega, show sl M - sl M0 + (sl M1 - sl M) = sl M1 - sl M0 by omega]
  have e1 : (r.map (tv X)).toList ++ st.map (tv X) = (r.toList ++ st).map (tv X) := by cases r <;> rfl
  rw [e1]
  exact h10
theorem x_callS {i n : Nat} {J' : Jt} {d' : Nat} {as : List Value} {r : Option Value} {M1 : Hp} {st0 : List Value} (hd : decode J.2.1 pc = .ok (.invokestatic i, 3)) (hm : Mk J' n) (hsta : Cond.static J'.1 ∈ gt) (hlk : Cond.methodLink J.1.cls i J'.1 ∈ gt) (hdd : d' + 1 ≤ d) (hn : as.length = n) (hst : st0 = as.reverse ++ st) (hsum : (st.map fun v => v.category).sum ≤ 8) (hC : Cl X d' J' as M r M1) (k : G X d J M0 (pc + 3) ls (r.toList ++ st) M1 v M') : G X d J M0 pc ls st0 M v M' :=
  G.by4 hC k fun p e R s m args below meth c H locs lsM cells slots ha hb hpre hf => by
    have hts := ha.2.2.2.2.2.2.2.1
    have h1 := ha.2.2.2.2.2.2.2.2.1
    have h2 := ha.2.2.2.2.2.2.2.2.2.1
    exact va_runS (As := as.map (tv X)) (rest := st.map (tv X)) ⟨ha.1, ha.2.1, ha.2.2.1, ha.2.2.2.2.2.2.1, hts⟩ hC.2 ⟨callB_k hm hts hlk ⟨by omega, by omega⟩, hts _ hsta⟩ hpre rfl (by simpa using hn) hb.2.2.1 (by show st0.map (tv X) = _; rw [hst]; simp) (lv_room (by rw [cat_sum]; exact hsum)) hd hf
theorem x_callI {i n b : Nat} {J' : Jt} {d' : Nat} {as : List Value} {M1 : Hp} {st0 : List Value} (hd : decode J.2.1 pc = .ok (.invokespecial i, 3)) (hm : Mk J' n) (hrt : J'.2.2.2 = none) (hnm : J'.1.name = "<init>") (hin : Cond.instanceMethod J'.1 ∈ gt) (hlk : Cond.methodLink J.1.cls i J'.1 ∈ gt) (hdd : d' + 1 ≤ d) (hn : as.length = n) (hst : st0 = as.reverse ++ .ref b :: st) (hsum : (st.map fun v => v.category).sum ≤ 8) (hC : Cl X d' J' (.ref b :: as) M none M1) (k : G X d J M0 (pc + 3) ls st M1 v M') : G X d J M0 pc ls st0 M v M' :=
  G.by4 (r := none) hC k fun p e R s m args below meth c H locs lsM cells slots ha hb hpre hf => by
    have hts := ha.2.2.2.2.2.2.2.1
    have h1 := ha.2.2.2.2.2.2.2.2.1
    have h2 := ha.2.2.2.2.2.2.2.2.2.1
    have hcb := callB_k (d' := d') (mc := M1.length - M.length) (ms := sl M1 - sl M) (R := R) hm hts hlk ⟨by omega, by omega⟩
    rw [hrt] at hcb
    exact va_runI (As := as.map (tv X)) (b := ev_o X + b) (rest := st.map (tv X)) ⟨ha.1, ha.2.1, ha.2.2.1, ha.2.2.2.2.2.2.1, hts⟩ hC.2 ⟨hcb, hnm, hts _ hin⟩ hpre rfl (by simpa using hn) hb.2.2.1 (by show st0.map (tv X) = _; rw [hst]; simp [tv]) (lv_room (by rw [cat_sum]; exact hsum)) hd hf
theorem x_callIN {i n b : Nat} {J' : Jt} {d' : Nat} {as : List Value} {M1 : Hp} {st0 : List Value} {host : String} (hd : decode J.2.1 pc = .ok (.invokespecial i, 3)) (hm : Mk J' n) (hrt : J'.2.2.2 = none) (hnm : J'.1.name = "<init>") (hin : Cond.instanceMethod J'.1 ∈ gt) (hlk : Cond.methodLinkNest J.1.cls i J'.1 host ∈ nls) (hdd : d' + 1 ≤ d) (hn : as.length = n) (hst : st0 = as.reverse ++ .ref b :: st) (hsum : (st.map fun v => v.category).sum ≤ 8) (hC : Cl X d' J' (.ref b :: as) M none M1) (k : G X d J M0 (pc + 3) ls st M1 v M') : G X d J M0 pc ls st0 M v M' :=
  G.by4 (r := none) hC k fun p e R s m args below meth c H locs lsM cells slots ha hb hpre hf => by
    have hts := ha.2.2.2.2.2.2.2.1
    have h1 := ha.2.2.2.2.2.2.2.2.1
    have h2 := ha.2.2.2.2.2.2.2.2.2.1
    have hN := ha.2.2.2.2.2.2.2.2.2.2.2.1.2.2.2.2
    have hcb := va_cnB (R := R) (s := s) (args := args) (own := J.1.cls) (index := i) (y := J'.1) (bytes := J'.2.1) (maxL := J'.2.2.1) (ret := J'.2.2.2) (Ts := gt) (ws := jw J') (rm := { frames := d', cells := M1.length - M.length, slots := sl M1 - sl M, locals := 28 * d' }) n hts (gt_in (jw_in hm)) rfl rfl rfl (hN _ hlk) (hts _ hm.2.1) ⟨hm.2.2.1, hm.2.2.2.1, hm.2.2.2.2.1⟩ ⟨by show d' + 1 ≤ R.frames; omega, by
      have := hm.2.2.2.2.2
      show 8 + (J'.2.2.1 + 11) + 28 * d' ≤ R.locals
      omega⟩
    rw [hrt] at hcb
    exact va_runIN (As := as.map (tv X)) (b := ev_o X + b) (rest := st.map (tv X)) ⟨ha.1, ha.2.1, ha.2.2.1, ha.2.2.2.2.2.2.1, hts⟩ hC.2 ⟨hcb, hnm, hts _ hin⟩ hpre rfl (by simpa using hn) hb.2.2.1 (by show st0.map (tv X) = _; rw [hst]; simp [tv]) (lv_room (by rw [cat_sum]; exact hsum)) hd hf
theorem x_callV {i n b ci : Nat} {J' : Jt} {d' : Nat} {as : List Value} {r : Option Value} {M1 : Hp} {st0 : List Value} {fs : List Value} {T : u_T} {N : Nat} (hd : decode J.2.1 pc = .ok (.invokevirtual i, 3)) (hm : Mk J' n) (hin : Cond.instanceMethod J'.1 ∈ gt) (hsel : Cond.selects J'.1.cls J'.1 J'.1 ∈ gt) (hlk : Cond.methodLink J.1.cls i J'.1 ∈ gt) (hc : cls_[ci]? = some (J'.1.cls, T, N)) (hM : M[b]? = some (.inr (ci, fs))) (hdd : d' + 1 ≤ d) (hn : as.length = n) (hst : st0 = as.reverse ++ .ref b :: st) (hsum : (st.map fun v => v.category).sum ≤ 8) (hC : Cl X d' J' (.ref b :: as) M r M1) (k : G X d J M0 (pc + 3) ls (r.toList ++ st) M1 v M') : G X d J M0 pc ls st0 M v M' :=
  G.by4 hC k fun p e R s m args below meth c H locs lsM cells slots ha hb hpre hf => by
    have hts := ha.2.2.2.2.2.2.2.1
    have h1 := ha.2.2.2.2.2.2.2.2.1
    have h2 := ha.2.2.2.2.2.2.2.2.2.1
    exact va_runV (As := as.map (tv X)) (b := ev_o X + b) (rest := st.map (tv X)) ⟨ha.1, ha.2.1, ha.2.2.1, ha.2.2.2.2.2.2.1, hts⟩ hC.2 ⟨callB_k hm hts hlk ⟨by omega, by omega⟩, hts _ hin, hts _ hsel⟩ ⟨hpre.1, va_recv ha.2.2.2.2.2.2.2.2.2.2.1 hb.1 hc (ws_get hM), hpre.2⟩ rfl (by simpa using hn) hb.2.2.1 (by show st0.map (tv X) = _; rw [hst]; simp [tv]) (lv_room (by rw [cat_sum]; exact hsum)) hd hf
theorem Cl.of {as : List Value} (hy : plainName J.1.cls = true) (hls : lq X 0 ls = lv_args 0 (as.map (tv X))) (hle : (lg_sl (as.map (tv X))).length ≤ J.2.2.1) (k : G X d J M 0 ls [] M v M') : Cl X d J as M v M' := by
  refine ⟨k.1, Met.ofW (cc := J.2.1) (maxL := J.2.2.1) (ret := J.2.2.2) hy rfl ?_⟩
  intro p e s m args below meth c s₁ B hml hv
  obtain ⟨rfl, hP, hK, hz, hR⟩ := hv
  have hts := atoms_spec (ws := jw J) B.pre
  have hl := lv_entry (as.map (tv X)) (n := J.2.2.1) hle
  rw [lg_entry_eq]
  rw [← hls] at hl
  have h := k.2 (Le.rf M) p e (headSpec (jw J) { frames := d, cells := M'.length - M.length, slots := sl M' - sl M, locals := 28 * d }).room s m (as.map (tv X)).toArray below meth c s.heap [] _
    ⟨B.exec, B.bytes, hml, B.returns, B.notSynchronized, fun hn => ((name_of_methodNamed B.named B.method).1).trans hn, findClass_of_methodNamed B.named, fun w hw => hts w (List.mem_cons_of_mem _ hw), Nat.le_refl _, Nat.le_refl _, hK, hR, hz⟩ ⟨Nat.le_refl _, Nat.le_refl _⟩ ⟨hP, va_S.rf, hl⟩
  rw [Nat.sub_self, Nat.sub_self] at h
  exact h
theorem x_copyl {i a0 a n0 n1 np : Nat} {f g : Nat → Int64} {M1 : Hp} (hd : decode J.2.1 pc = .ok (.invokestatic i, 3)) (hlk : Cond.methodLink J.1.cls i arraycopyName ∈ gt) (hnat : Cond.native arraycopyName ∈ gt) (hstat : Cond.static arraycopyName ∈ gt) (hini : Cond.initialized "java/lang/System" ∈ gt) (hM0 : M[a0]? = some (.inl (1, n0, .inr (.inl f)))) (hMa : M[a]? = some (.inl (1, n1, .inr (.inl g)))) (h4 : np ≤ n0) (h5 : np ≤ n1) (hnp : np < 2 ^ 31) (hdd : 1 ≤ d) (hsum : (st.map fun v => v.category).sum ≤ 0)
    (hM1 : M.set a (.inl (1, n1, .inr (.inl (va_cpy f g 0 0 np)))) = M1) (k : G X d J M0 (pc + 3) ls st M1 v M') : G X d J M0 pc ls (.int (nI np) :: .int 0 :: .ref a :: .int 0 :: .ref a0 :: st) M v M' := by
  subst hM1
  exact G.by2 k (by simp) (sl_set M a _ _ hMa (by simp [csz])) fun p e R s m args below meth c H locs lsM cells slots Q ha hb kk => by
    have hts := ha.2.2.2.2.2.2.2.1
    have h1 := ha.2.2.2.2.2.2.2.2.1
    have h2 := ha.2.2.2.2.2.2.2.2.2.1
    have hc := nI_clamp (n := np) hnp
    have c0 : (0 : Int32).toNatClampNeg = 0 := rfl
    refine va_copyl (D := ev_D X) ha.1 ha.2.1 (by rw [ha.2.2.1]; exact hb.2.2.1.symm) ha.2.2.2.2.2.2.1 (hts _ hlk) (hts _ hnat) (hts _ hstat) (hts _ hini) ha.2.2.2.2.2.2.2.2.2.2.1 hb.1 (ws_D X M) hb.2.1 a0 a 1 1 (ws_get hM0) (ws_get hMa) rfl rfl rfl (by decide) (by decide) (nI_pos hnp) (by rw [c0, hc]; omega) (by rw [c0, hc]; omega) (fun _ _ => rfl) (by omega) ?_ hd (fun H1 locs1 hP _ hS => kk H1 locs1 (by rw [c0, hc] at hP; rw [← ws_set]; exact hP) hS)
    rw [cat_sum]
    have e5 : nativeFrameWords "java/lang/System" "arraycopy" 5 + 11 ≤ 28 := by decide +kernel
    omega
theorem x_copyi {i a0 a n0 n1 np : Nat} {f g : Nat → Int32} {M1 : Hp} (hd : decode J.2.1 pc = .ok (.invokestatic i, 3)) (hlk : Cond.methodLink J.1.cls i arraycopyName ∈ gt) (hnat : Cond.native arraycopyName ∈ gt) (hstat : Cond.static arraycopyName ∈ gt) (hini : Cond.initialized "java/lang/System" ∈ gt) (hM0 : M[a0]? = some (.inl (0, n0, .inl f))) (hMa : M[a]? = some (.inl (0, n1, .inl g))) (h4 : np ≤ n0) (h5 : np ≤ n1) (hnp : np < 2 ^ 31) (hdd : 1 ≤ d) (hsum : (st.map fun v => v.category).sum ≤ 0)
    (hM1 : M.set a (.inl (0, n1, .inl (va_cpy f g 0 0 np))) = M1) (k : G X d J M0 (pc + 3) ls st M1 v M') : G X d J M0 pc ls (.int (nI np) :: .int 0 :: .ref a :: .int 0 :: .ref a0 :: st) M v M' := by
  subst hM1
  exact G.by2 k (by simp) (sl_set M a _ _ hMa (by simp [csz])) fun p e R s m args below meth c H locs lsM cells slots Q ha hb kk => by
    have hts := ha.2.2.2.2.2.2.2.1
    have h1 := ha.2.2.2.2.2.2.2.2.1
    have h2 := ha.2.2.2.2.2.2.2.2.2.1
    have hc := nI_clamp (n := np) hnp
    have c0 : (0 : Int32).toNatClampNeg = 0 := rfl
    refine va_copyi (D := ev_D X) ha.1 ha.2.1 (by rw [ha.2.2.1]; exact hb.2.2.1.symm) ha.2.2.2.2.2.2.1 (hts _ hlk) (hts _ hnat) (hts _ hstat) (hts _ hini) ha.2.2.2.2.2.2.2.2.2.2.1 hb.1 (ws_D X M) hb.2.1 a0 a 0 0 (ws_get hM0) (ws_get hMa) rfl rfl rfl (by decide) (by decide) (nI_pos hnp) (by rw [c0, hc]; omega) (by rw [c0, hc]; omega) (fun _ _ => rfl) (by omega) ?_ hd (fun H1 locs1 hP _ hS => kk H1 locs1 (by rw [c0, hc] at hP; rw [← ws_set]; exact hP) hS)
    rw [cat_sum]
    have e5 : nativeFrameWords "java/lang/System" "arraycopy" 5 + 11 ≤ 28 := by decide +kernel
    omega
end HEAPROWS
end
section
theorem gt_1 {w : Cond} {i : Nat} (h : tables_1_1[i]? = some w) (g : goodWord w = true) : w ∈ gt := List.mem_filter.mpr ⟨List.mem_append_right _ (List.mem_append_left _ (List.mem_of_getElem? h)), g⟩
theorem gt_2 {w : Cond} {i : Nat} (h : tables_1_2[i]? = some w) (g : goodWord w = true) : w ∈ gt := List.mem_filter.mpr ⟨List.mem_append_right _ (List.mem_append_right _ (List.mem_append_left _ (List.mem_of_getElem? h))), g⟩
theorem gt_3 {w : Cond} {i : Nat} (h : tables_1_3[i]? = some w) (g : goodWord w = true) : w ∈ gt := List.mem_filter.mpr ⟨List.mem_append_right _ (List.mem_append_right _ (List.mem_append_right _ (List.mem_append_left _ (List.mem_of_getElem? h)))), g⟩
theorem gt_4 {w : Cond} {i : Nat} (h : tables_1_4[i]? = some w) (g : goodWord w = true) : w ∈ gt := List.mem_filter.mpr ⟨List.mem_append_right _ (List.mem_append_right _ (List.mem_append_right _ (List.mem_append_right _ (List.mem_of_getElem? h)))), g⟩
theorem gt_0 {w : Cond} {i : Nat} (h : (k2_sels lw_privs)[i]? = some w) (g : goodWord w = true) : w ∈ gt := List.mem_filter.mpr ⟨List.mem_append_left _ (List.mem_of_getElem? h), g⟩
/-! WHAT THE TABLES SAY, by program out of the printed names -/
theorem uX0 : ∀ w ∈ u_ws RX0 TX0 12, w ∈ gt := by
  intro w hw
  obtain ⟨k, hk, rfl⟩ := List.mem_map.mp hw
  have hk := List.mem_range.mp hk
  match k, hk with
  | 0, _ => exact gt_1 (i := 92) rfl rfl
  | 1, _ => exact gt_1 (i := 94) rfl rfl
  | 2, _ => exact gt_1 (i := 96) rfl rfl
  | 3, _ => exact gt_1 (i := 98) rfl rfl
  | 4, _ => exact gt_1 (i := 100) rfl rfl
  | 5, _ => exact gt_1 (i := 102) rfl rfl
  | 6, _ => exact gt_1 (i := 104) rfl rfl
  | 7, _ => exact gt_1 (i := 106) rfl rfl
  | 8, _ => exact gt_1 (i := 108) rfl rfl
  | 9, _ => exact gt_1 (i := 110) rfl rfl
  | 10, _ => exact gt_1 (i := 112) rfl rfl
  | 11, _ => exact gt_1 (i := 114) rfl rfl
  | k + 12, h => exact absurd h (by omega)
theorem uX2 : ∀ w ∈ u_ws RX2 TX2 5, w ∈ gt := by
  intro w hw
  obtain ⟨k, hk, rfl⟩ := List.mem_map.mp hw
  have hk := List.mem_range.mp hk
  match k, hk with
  | 0, _ => exact gt_1 (i := 41) rfl rfl
  | 1, _ => exact gt_1 (i := 43) rfl rfl
  | 2, _ => exact gt_1 (i := 45) rfl rfl
  | 3, _ => exact gt_1 (i := 47) rfl rfl
  | 4, _ => exact gt_1 (i := 49) rfl rfl
  | k + 5, h => exact absurd h (by omega)
theorem uX3 : ∀ w ∈ u_ws RX3 TX3 9, w ∈ gt := by
  intro w hw
  obtain ⟨k, hk, rfl⟩ := List.mem_map.mp hw
  have hk := List.mem_range.mp hk
  match k, hk with
  | 0, _ => exact gt_1 (i := 135) rfl rfl
  | 1, _ => exact gt_1 (i := 137) rfl rfl
  | 2, _ => exact gt_1 (i := 139) rfl rfl
  | 3, _ => exact gt_1 (i := 141) rfl rfl
  | 4, _ => exact gt_1 (i := 143) rfl rfl
  | 5, _ => exact gt_1 (i := 145) rfl rfl
  | 6, _ => exact gt_1 (i := 147) rfl rfl
  | 7, _ => exact gt_1 (i := 149) rfl rfl
  | 8, _ => exact gt_1 (i := 151) rfl rfl
  | k + 9, h => exact absurd h (by omega)
theorem uX4 : ∀ w ∈ u_ws RX4 TX4 4, w ∈ gt := by
  intro w hw
  obtain ⟨k, hk, rfl⟩ := List.mem_map.mp hw
  have hk := List.mem_range.mp hk
  match k, hk with
  | 0, _ => exact gt_1 (i := 173) rfl rfl
  | 1, _ => exact gt_1 (i := 175) rfl rfl
  | 2, _ => exact gt_1 (i := 177) rfl rfl
  | 3, _ => exact gt_1 (i := 179) rfl rfl
  | k + 4, h => exact absurd h (by omega)
theorem uX5 : ∀ w ∈ u_ws RX5 TX5 1, w ∈ gt := by
  intro w hw
  obtain ⟨k, hk, rfl⟩ := List.mem_map.mp hw
  have hk := List.mem_range.mp hk
  match k, hk with
  | 0, _ => exact gt_1 (i := 68) rfl rfl
  | k + 1, h => exact absurd h (by omega)
theorem uX6 : ∀ w ∈ u_ws RX6 TX6 10, w ∈ gt := by
  intro w hw
  obtain ⟨k, hk, rfl⟩ := List.mem_map.mp hw
  have hk := List.mem_range.mp hk
  match k, hk with
  | 0, _ => exact gt_1 (i := 194) rfl rfl
  | 1, _ => exact gt_1 (i := 196) rfl rfl
  | 2, _ => exact gt_1 (i := 198) rfl rfl
  | 3, _ => exact gt_1 (i := 200) rfl rfl
  | 4, _ => exact gt_1 (i := 202) rfl rfl
  | 5, _ => exact gt_1 (i := 204) rfl rfl
  | 6, _ => exact gt_1 (i := 206) rfl rfl
  | 7, _ => exact gt_1 (i := 208) rfl rfl
  | 8, _ => exact gt_1 (i := 210) rfl rfl
  | 9, _ => exact gt_1 (i := 212) rfl rfl
  | k + 10, h => exact absurd h (by omega)
theorem uX7 : ∀ w ∈ u_ws RX7 TX7 27, w ∈ gt := by
  intro w hw
  obtain ⟨k, hk, rfl⟩ := List.mem_map.mp hw
  have hk := List.mem_range.mp hk
  match k, hk with
  | 0, _ => exact gt_3 (i := 128) rfl rfl
  | 1, _ => exact gt_3 (i := 130) rfl rfl
  | 2, _ => exact gt_3 (i := 132) rfl rfl
  | 3, _ => exact gt_3 (i := 134) rfl rfl
  | 4, _ => exact gt_3 (i := 136) rfl rfl
  | 5, _ => exact gt_3 (i := 138) rfl rfl
  | 6, _ => exact gt_3 (i := 140) rfl rfl
  | 7, _ => exact gt_3 (i := 142) rfl rfl
  | 8, _ => exact gt_3 (i := 144) rfl rfl
  | 9, _ => exact gt_3 (i := 146) rfl rfl
  | 10, _ => exact gt_3 (i := 148) rfl rfl
  | 11, _ => exact gt_3 (i := 150) rfl rfl
  | 12, _ => exact gt_3 (i := 152) rfl rfl
  | 13, _ => exact gt_3 (i := 154) rfl rfl
  | 14, _ => exact gt_3 (i := 156) rfl rfl
  | 15, _ => exact gt_3 (i := 158) rfl rfl
  | 16, _ => exact gt_3 (i := 160) rfl rfl
  | 17, _ => exact gt_3 (i := 162) rfl rfl
  | 18, _ => exact gt_3 (i := 164) rfl rfl
  | 19, _ => exact gt_3 (i := 166) rfl rfl
  | 20, _ => exact gt_3 (i := 168) rfl rfl
  | 21, _ => exact gt_3 (i := 170) rfl rfl
  | 22, _ => exact gt_3 (i := 172) rfl rfl
  | 23, _ => exact gt_3 (i := 174) rfl rfl
  | 24, _ => exact gt_3 (i := 176) rfl rfl
  | 25, _ => exact gt_3 (i := 178) rfl rfl
  | 26, _ => exact gt_3 (i := 180) rfl rfl
  | k + 27, h => exact absurd h (by omega)
theorem fl_RX0_9 : Cond.fieldLink RX0 9 "PageMender$Code" "polynomial" "[I" ∈ gt := gt_1 (i := 73) rfl rfl
theorem fl_RX0_15 : Cond.fieldLink RX0 15 "PageMender$Code" "highSteps" "[J" ∈ gt := gt_1 (i := 75) rfl rfl
theorem fl_RX0_19 : Cond.fieldLink RX0 19 "PageMender$Code" "lowSteps" "[J" ∈ gt := gt_1 (i := 76) rfl rfl
theorem fl_RX0_22 : Cond.fieldLink RX0 22 "PageMender$Code" "rest" "[I" ∈ gt := gt_1 (i := 77) rfl rfl
theorem fl_RX0_28 : Cond.fieldLink RX0 28 "PageMender$Code" "ones" "LPageMender$Row;" ∈ gt := gt_1 (i := 78) rfl rfl
theorem fl_RX0_32 : Cond.fieldLink RX0 32 "PageMender$Code" "field" "LPageMender$Field;" ∈ gt := gt_1 (i := 72) rfl rfl
theorem fl_RX0_36 : Cond.fieldLink RX0 36 "PageMender$Code" "t" "I" ∈ gt := gt_1 (i := 80) rfl rfl
theorem fl_RX0_40 : Cond.fieldLink RX0 40 "PageMender$Code" "d" "I" ∈ gt := gt_1 (i := 83) rfl rfl
theorem fl_RX0_46 : Cond.fieldLink RX0 46 "PageMender$Code" "\x72" "I" ∈ gt := gt_1 (i := 85) rfl rfl
theorem fl_RX0_49 : Cond.fieldLink RX0 49 "PageMender$Code" "n" "I" ∈ gt := gt_1 (i := 87) rfl rfl
theorem fl_RX0_65 : Cond.fieldLink RX0 65 "PageMender$Field" "m" "I" ∈ gt := gt_1 (i := 35) rfl rfl
theorem fl_RX0_91 : Cond.fieldLink RX0 91 "PageMender$Code" "high" "J" ∈ gt := gt_1 (i := 90) rfl rfl
theorem fl_RX0_95 : Cond.fieldLink RX0 95 "PageMender$Code" "low" "J" ∈ gt := gt_1 (i := 91) rfl rfl
theorem fl_RX0_114 : Cond.fieldLink RX0 114 "PageMender$Field" "order" "I" ∈ gt := gt_1 (i := 40) rfl rfl
theorem fl_RX0_120 : Cond.fieldLink RX0 120 "PageMender$Field" "powers" "[I" ∈ gt := gt_1 (i := 29) rfl rfl
theorem fl_RX2_9 : Cond.fieldLink RX2 9 "PageMender$Field" "powers" "[I" ∈ gt := gt_1 (i := 27) rfl rfl
theorem fl_RX2_15 : Cond.fieldLink RX2 15 "PageMender$Field" "logs" "[I" ∈ gt := gt_1 (i := 30) rfl rfl
theorem fl_RX2_18 : Cond.fieldLink RX2 18 "PageMender$Field" "coefficients" "[I" ∈ gt := gt_1 (i := 33) rfl rfl
theorem fl_RX2_21 : Cond.fieldLink RX2 21 "PageMender$Field" "m" "I" ∈ gt := gt_1 (i := 34) rfl rfl
theorem fl_RX2_25 : Cond.fieldLink RX2 25 "PageMender$Field" "order" "I" ∈ gt := gt_1 (i := 37) rfl rfl
theorem fl_RX2_28 : Cond.fieldLink RX2 28 "PageMender$Field" "POLYNOMIALS" "[I" ∈ gt := gt_2 (i := 7) rfl rfl
theorem fl_RX3_12 : Cond.fieldLink RX3 12 "PageMender$Mender" "word" "LPageMender$Row;" ∈ gt := gt_1 (i := 127) rfl rfl
theorem fl_RX3_18 : Cond.fieldLink RX3 18 "PageMender$Mender" "syndromes" "[I" ∈ gt := gt_1 (i := 129) rfl rfl
theorem fl_RX3_22 : Cond.fieldLink RX3 22 "PageMender$Mender" "locator" "[I" ∈ gt := gt_1 (i := 130) rfl rfl
theorem fl_RX3_25 : Cond.fieldLink RX3 25 "PageMender$Mender" "earlier" "[I" ∈ gt := gt_1 (i := 131) rfl rfl
theorem fl_RX3_28 : Cond.fieldLink RX3 28 "PageMender$Mender" "spare" "[I" ∈ gt := gt_1 (i := 132) rfl rfl
theorem fl_RX3_31 : Cond.fieldLink RX3 31 "PageMender$Mender" "logs" "[I" ∈ gt := gt_1 (i := 133) rfl rfl
theorem fl_RX3_34 : Cond.fieldLink RX3 34 "PageMender$Mender" "wrong" "[I" ∈ gt := gt_1 (i := 134) rfl rfl
theorem fl_RX3_37 : Cond.fieldLink RX3 37 "PageMender$Mender" "field" "LPageMender$Field;" ∈ gt := gt_1 (i := 125) rfl rfl
theorem fl_RX3_41 : Cond.fieldLink RX3 41 "PageMender$Mender" "code" "LPageMender$Code;" ∈ gt := gt_1 (i := 126) rfl rfl
theorem fl_RX3_45 : Cond.fieldLink RX3 45 "PageMender$Page" "marks" "LPageMender$Row;" ∈ gt := gt_1 (i := 169) rfl rfl
theorem fl_RX3_54 : Cond.fieldLink RX3 54 "PageMender$Code" "t" "I" ∈ gt := gt_1 (i := 81) rfl rfl
theorem fl_RX3_64 : Cond.fieldLink RX3 64 "PageMender$Page" "bits" "LPageMender$Row;" ∈ gt := gt_1 (i := 164) rfl rfl
theorem fl_RX3_71 : Cond.fieldLink RX3 71 "PageMender$Row" "longs" "[J" ∈ gt := gt_1 (i := 67) rfl rfl
theorem fl_RX3_143 : Cond.fieldLink RX3 143 "PageMender$Field" "logs" "[I" ∈ gt := gt_1 (i := 32) rfl rfl
theorem fl_RX3_144 : Cond.fieldLink RX3 144 "PageMender$Code" "n" "I" ∈ gt := gt_1 (i := 88) rfl rfl
theorem fl_RX3_147 : Cond.fieldLink RX3 147 "PageMender$Field" "order" "I" ∈ gt := gt_1 (i := 39) rfl rfl
theorem fl_RX3_158 : Cond.fieldLink RX3 158 "PageMender$Field" "powers" "[I" ∈ gt := gt_1 (i := 28) rfl rfl
theorem fl_RX4_12 : Cond.fieldLink RX4 12 "PageMender$Page" "bits" "LPageMender$Row;" ∈ gt := gt_1 (i := 163) rfl rfl
theorem fl_RX4_18 : Cond.fieldLink RX4 18 "PageMender$Page" "stuck" "LPageMender$Row;" ∈ gt := gt_1 (i := 166) rfl rfl
theorem fl_RX4_21 : Cond.fieldLink RX4 21 "PageMender$Page" "marks" "LPageMender$Row;" ∈ gt := gt_1 (i := 168) rfl rfl
theorem fl_RX4_31 : Cond.fieldLink RX4 31 "PageMender$Page" "wear" "I" ∈ gt := gt_1 (i := 171) rfl rfl
theorem fl_RX4_35 : Cond.fieldLink RX4 35 "PageMender$Row" "longs" "[J" ∈ gt := gt_1 (i := 66) rfl rfl
theorem fl_RX5_9 : Cond.fieldLink RX5 9 "PageMender$Row" "longs" "[J" ∈ gt := gt_1 (i := 65) rfl rfl
theorem fl_RX6_12 : Cond.fieldLink RX6 12 "PageMender" "field" "LPageMender$Field;" ∈ gt := gt_1 (i := 184) rfl rfl
theorem fl_RX6_21 : Cond.fieldLink RX6 21 "PageMender" "code" "LPageMender$Code;" ∈ gt := gt_1 (i := 185) rfl rfl
theorem fl_RX6_30 : Cond.fieldLink RX6 30 "PageMender" "mender" "LPageMender$Mender;" ∈ gt := gt_1 (i := 186) rfl rfl
theorem fl_RX6_36 : Cond.fieldLink RX6 36 "PageMender" "pages" "[LPageMender$Page;" ∈ gt := gt_1 (i := 187) rfl rfl
theorem fl_RX6_44 : Cond.fieldLink RX6 44 "PageMender" "buffer" "LPageMender$Row;" ∈ gt := gt_1 (i := 188) rfl rfl
theorem fl_RX6_48 : Cond.fieldLink RX6 48 "PageMender" "turnedBits" "LPageMender$Row;" ∈ gt := gt_1 (i := 189) rfl rfl
theorem fl_RX6_64 : Cond.fieldLink RX6 64 "PageMender$Code" "ones" "LPageMender$Row;" ∈ gt := gt_1 (i := 79) rfl rfl
theorem fl_RX6_74 : Cond.fieldLink RX6 74 "PageMender" "readsMended" "I" ∈ gt := gt_1 (i := 191) rfl rfl
theorem fl_RX6_78 : Cond.fieldLink RX6 78 "PageMender" "readsRight" "I" ∈ gt := gt_1 (i := 192) rfl rfl
theorem fl_RX6_81 : Cond.fieldLink RX6 81 "PageMender" "readsLost" "I" ∈ gt := gt_1 (i := 193) rfl rfl
theorem fl_RX6_84 : Cond.fieldLink RX6 84 "PageMender" "opened" "Z" ∈ gt := gt_1 (i := 190) rfl rfl
theorem fl_RX6_104 : Cond.fieldLink RX6 104 "PageMender$Field" "logs" "[I" ∈ gt := gt_1 (i := 31) rfl rfl
theorem fl_RX6_108 : Cond.fieldLink RX6 108 "PageMender$Field" "order" "I" ∈ gt := gt_1 (i := 38) rfl rfl
theorem fl_RX6_114 : Cond.fieldLink RX6 114 "PageMender$Code" "\x72" "I" ∈ gt := gt_1 (i := 86) rfl rfl
theorem fl_RX6_117 : Cond.fieldLink RX6 117 "PageMender$Code" "polynomial" "[I" ∈ gt := gt_1 (i := 74) rfl rfl
theorem fl_RX6_129 : Cond.fieldLink RX6 129 "PageMender$Code" "d" "I" ∈ gt := gt_1 (i := 84) rfl rfl
theorem fl_RX6_153 : Cond.fieldLink RX6 153 "PageMender$Page" "wear" "I" ∈ gt := gt_1 (i := 172) rfl rfl
theorem fl_RX6_165 : Cond.fieldLink RX6 165 "PageMender$Page" "stuck" "LPageMender$Row;" ∈ gt := gt_1 (i := 167) rfl rfl
theorem fl_RX6_171 : Cond.fieldLink RX6 171 "PageMender$Page" "marks" "LPageMender$Row;" ∈ gt := gt_1 (i := 170) rfl rfl
theorem fl_RX6_177 : Cond.fieldLink RX6 177 "PageMender$Page" "bits" "LPageMender$Row;" ∈ gt := gt_1 (i := 165) rfl rfl
theorem fl_RX6_184 : Cond.fieldLink RX6 184 "PageMender$Mender" "word" "LPageMender$Row;" ∈ gt := gt_1 (i := 128) rfl rfl
theorem fl_RX6_193 : Cond.fieldLink RX6 193 "PageMender$Code" "n" "I" ∈ gt := gt_1 (i := 89) rfl rfl
theorem fl_RX6_196 : Cond.fieldLink RX6 196 "PageMender$Code" "t" "I" ∈ gt := gt_1 (i := 82) rfl rfl
theorem fl_RX6_212 : Cond.fieldLink RX6 212 "PageMender$Field" "m" "I" ∈ gt := gt_1 (i := 36) rfl rfl
theorem fl_RX7_7 : Cond.fieldLink RX7 7 "PageMenderModel" "powers" "[I" ∈ gt := gt_3 (i := 108) rfl rfl
theorem fl_RX7_13 : Cond.fieldLink RX7 13 "PageMenderModel" "logs" "[I" ∈ gt := gt_3 (i := 109) rfl rfl
theorem fl_RX7_16 : Cond.fieldLink RX7 16 "PageMenderModel" "generator" "[I" ∈ gt := gt_3 (i := 110) rfl rfl
theorem fl_RX7_19 : Cond.fieldLink RX7 19 "PageMenderModel" "buffer" "[I" ∈ gt := gt_3 (i := 111) rfl rfl
theorem fl_RX7_23 : Cond.fieldLink RX7 23 "PageMenderModel" "bits" "[Z" ∈ gt := gt_3 (i := 112) rfl rfl
theorem fl_RX7_27 : Cond.fieldLink RX7 27 "PageMenderModel" "stuck" "[I" ∈ gt := gt_3 (i := 113) rfl rfl
theorem fl_RX7_30 : Cond.fieldLink RX7 30 "PageMenderModel" "marks" "[Z" ∈ gt := gt_3 (i := 114) rfl rfl
theorem fl_RX7_33 : Cond.fieldLink RX7 33 "PageMenderModel" "wear" "[I" ∈ gt := gt_3 (i := 115) rfl rfl
theorem fl_RX7_36 : Cond.fieldLink RX7 36 "PageMenderModel" "turned" "[I" ∈ gt := gt_3 (i := 116) rfl rfl
theorem fl_RX7_39 : Cond.fieldLink RX7 39 "PageMenderModel" "made" "[I" ∈ gt := gt_3 (i := 121) rfl rfl
theorem fl_RX7_42 : Cond.fieldLink RX7 42 "PageMenderModel" "spare" "[I" ∈ gt := gt_3 (i := 122) rfl rfl
theorem fl_RX7_45 : Cond.fieldLink RX7 45 "PageMenderModel" "word" "[Z" ∈ gt := gt_3 (i := 123) rfl rfl
theorem fl_RX7_48 : Cond.fieldLink RX7 48 "PageMenderModel" "left" "[I" ∈ gt := gt_3 (i := 124) rfl rfl
theorem fl_RX7_51 : Cond.fieldLink RX7 51 "PageMenderModel" "syndromes" "[I" ∈ gt := gt_3 (i := 125) rfl rfl
theorem fl_RX7_54 : Cond.fieldLink RX7 54 "PageMenderModel" "lines" "[I" ∈ gt := gt_3 (i := 126) rfl rfl
theorem fl_RX7_57 : Cond.fieldLink RX7 57 "PageMenderModel" "locator" "[I" ∈ gt := gt_3 (i := 127) rfl rfl
theorem fl_RX7_64 : Cond.fieldLink RX7 64 "PageMenderModel" "all" "I" ∈ gt := gt_3 (i := 107) rfl rfl
theorem fl_RX7_86 : Cond.fieldLink RX7 86 "PageMenderModel" "m" "I" ∈ gt := gt_3 (i := 102) rfl rfl
theorem fl_RX7_100 : Cond.fieldLink RX7 100 "PageMenderModel" "isOpen" "Z" ∈ gt := gt_3 (i := 101) rfl rfl
theorem fl_RX7_104 : Cond.fieldLink RX7 104 "PageMenderModel" "t" "I" ∈ gt := gt_3 (i := 103) rfl rfl
theorem fl_RX7_107 : Cond.fieldLink RX7 107 "PageMenderModel" "d" "I" ∈ gt := gt_3 (i := 104) rfl rfl
theorem fl_RX7_110 : Cond.fieldLink RX7 110 "PageMenderModel" "\x72" "I" ∈ gt := gt_3 (i := 105) rfl rfl
theorem fl_RX7_113 : Cond.fieldLink RX7 113 "PageMenderModel" "n" "I" ∈ gt := gt_3 (i := 106) rfl rfl
theorem fl_RX7_116 : Cond.fieldLink RX7 116 "PageMenderModel" "turns" "I" ∈ gt := gt_3 (i := 117) rfl rfl
theorem fl_RX7_119 : Cond.fieldLink RX7 119 "PageMenderModel" "mended" "I" ∈ gt := gt_3 (i := 118) rfl rfl
theorem fl_RX7_122 : Cond.fieldLink RX7 122 "PageMenderModel" "right" "I" ∈ gt := gt_3 (i := 119) rfl rfl
theorem fl_RX7_125 : Cond.fieldLink RX7 125 "PageMenderModel" "lost" "I" ∈ gt := gt_3 (i := 120) rfl rfl
theorem ml_RL_9 : Cond.methodLink RL 9 yX6_init ∈ gt := gt_1 (i := 15) rfl rfl
theorem ml_RL_12 : Cond.methodLink RL 12 yX7_init ∈ gt := gt_3 (i := 96) rfl rfl
theorem ml_RL_13 : Cond.methodLink RL 13 yX6_open ∈ gt := gt_1 (i := 215) rfl rfl
theorem ml_RL_17 : Cond.methodLink RL 17 yX7_open ∈ gt := gt_3 (i := 184) rfl rfl
theorem ml_RL_18 : Cond.methodLink RL 18 yX6_times ∈ gt := gt_2 (i := 79) rfl rfl
theorem ml_RL_22 : Cond.methodLink RL 22 yX7_times ∈ gt := gt_3 (i := 221) rfl rfl
theorem ml_RL_23 : Cond.methodLink RL 23 yX6_inverse ∈ gt := gt_2 (i := 88) rfl rfl
theorem ml_RL_27 : Cond.methodLink RL 27 yX7_inverse ∈ gt := gt_3 (i := 229) rfl rfl
theorem ml_RL_28 : Cond.methodLink RL 28 yX6_power ∈ gt := gt_2 (i := 96) rfl rfl
theorem ml_RL_31 : Cond.methodLink RL 31 yX7_power ∈ gt := gt_3 (i := 237) rfl rfl
theorem ml_RL_32 : Cond.methodLink RL 32 yX6_log ∈ gt := gt_2 (i := 106) rfl rfl
theorem ml_RL_35 : Cond.methodLink RL 35 yX7_log ∈ gt := gt_4 (i := 3) rfl rfl
theorem ml_RL_36 : Cond.methodLink RL 36 yX6_minimal ∈ gt := gt_2 (i := 110) rfl rfl
theorem ml_RL_39 : Cond.methodLink RL 39 yX7_minimal ∈ gt := gt_4 (i := 7) rfl rfl
theorem ml_RL_40 : Cond.methodLink RL 40 yX6_generator ∈ gt := gt_2 (i := 115) rfl rfl
theorem ml_RL_43 : Cond.methodLink RL 43 yX7_generator ∈ gt := gt_4 (i := 11) rfl rfl
theorem ml_RL_44 : Cond.methodLink RL 44 yX6_put ∈ gt := gt_2 (i := 119) rfl rfl
theorem ml_RL_47 : Cond.methodLink RL 47 yX7_put ∈ gt := gt_4 (i := 15) rfl rfl
theorem ml_RL_50 : Cond.methodLink RL 50 yX6_fill ∈ gt := gt_2 (i := 136) rfl rfl
theorem ml_RL_54 : Cond.methodLink RL 54 yX7_fill ∈ gt := gt_4 (i := 19) rfl rfl
theorem ml_RL_55 : Cond.methodLink RL 55 yX6_get ∈ gt := gt_2 (i := 141) rfl rfl
theorem ml_RL_58 : Cond.methodLink RL 58 yX7_get ∈ gt := gt_4 (i := 24) rfl rfl
theorem ml_RL_59 : Cond.methodLink RL 59 yX6_tail ∈ gt := gt_2 (i := 145) rfl rfl
theorem ml_RL_62 : Cond.methodLink RL 62 yX7_tail ∈ gt := gt_4 (i := 28) rfl rfl
theorem ml_RL_63 : Cond.methodLink RL 63 yX6_write ∈ gt := gt_2 (i := 167) rfl rfl
theorem ml_RL_66 : Cond.methodLink RL 66 yX7_write ∈ gt := gt_4 (i := 36) rfl rfl
theorem ml_RL_67 : Cond.methodLink RL 67 yX6_erase ∈ gt := gt_2 (i := 189) rfl rfl
theorem ml_RL_70 : Cond.methodLink RL 70 yX7_erase ∈ gt := gt_4 (i := 51) rfl rfl
theorem ml_RL_71 : Cond.methodLink RL 71 yX6_flip ∈ gt := gt_2 (i := 198) rfl rfl
theorem ml_RL_74 : Cond.methodLink RL 74 yX7_flip ∈ gt := gt_4 (i := 59) rfl rfl
theorem ml_RL_75 : Cond.methodLink RL 75 yX6_stick ∈ gt := gt_2 (i := 212) rfl rfl
theorem ml_RL_78 : Cond.methodLink RL 78 yX7_stick ∈ gt := gt_4 (i := 67) rfl rfl
theorem ml_RL_79 : Cond.methodLink RL 79 yX6_mark ∈ gt := gt_2 (i := 224) rfl rfl
theorem ml_RL_83 : Cond.methodLink RL 83 yX7_mark ∈ gt := gt_4 (i := 75) rfl rfl
theorem ml_RL_84 : Cond.methodLink RL 84 yX6_bit ∈ gt := gt_2 (i := 229) rfl rfl
theorem ml_RL_87 : Cond.methodLink RL 87 yX7_bit ∈ gt := gt_4 (i := 83) rfl rfl
theorem ml_RL_88 : Cond.methodLink RL 88 yX6_read ∈ gt := gt_2 (i := 233) rfl rfl
theorem ml_RL_91 : Cond.methodLink RL 91 yX7_read ∈ gt := gt_4 (i := 87) rfl rfl
theorem ml_RL_92 : Cond.methodLink RL 92 yX6_turned ∈ gt := gt_3 (i := 63) rfl rfl
theorem ml_RL_95 : Cond.methodLink RL 95 yX7_turned ∈ gt := gt_4 (i := 107) rfl rfl
theorem ml_RL_96 : Cond.methodLink RL 96 yX6_syndrome ∈ gt := gt_3 (i := 67) rfl rfl
theorem ml_RL_99 : Cond.methodLink RL 99 yX7_syndrome ∈ gt := gt_4 (i := 111) rfl rfl
theorem ml_RL_100 : Cond.methodLink RL 100 yX6_copy ∈ gt := gt_3 (i := 73) rfl rfl
theorem ml_RL_103 : Cond.methodLink RL 103 yX7_copy ∈ gt := gt_4 (i := 115) rfl rfl
theorem ml_RL_104 : Cond.methodLink RL 104 yX6_refresh ∈ gt := gt_3 (i := 81) rfl rfl
theorem ml_RL_107 : Cond.methodLink RL 107 yX7_refresh ∈ gt := gt_4 (i := 119) rfl rfl
theorem ml_RL_108 : Cond.methodLink RL 108 yX6_told ∈ gt := gt_3 (i := 85) rfl rfl
theorem ml_RL_111 : Cond.methodLink RL 111 yX7_told ∈ gt := gt_4 (i := 123) rfl rfl
theorem ml_RL_112 : Cond.methodLink RL 112 yX6_about ∈ gt := gt_3 (i := 90) rfl rfl
theorem ml_RL_115 : Cond.methodLink RL 115 yX7_about ∈ gt := gt_4 (i := 131) rfl rfl
theorem ml_RX0_3 : Cond.methodLink RX0 3 objectInit ∈ gt := gt_1 (i := 58) rfl rfl
theorem ml_RX0_43 : Cond.methodLink RX0 43 yX0_makePolynomial ∈ gt := gt_2 (i := 13) rfl rfl
theorem ml_RX0_52 : Cond.methodLink RX0 52 yX5_becomeFirstOnes ∈ gt := gt_2 (i := 42) rfl rfl
theorem ml_RX0_56 : Cond.methodLink RX0 56 yX0_makeSteps ∈ gt := gt_2 (i := 58) rfl rfl
theorem ml_RX0_59 : Cond.methodLink RX0 59 yJ7_fill_53178 ∈ gt := gt_2 (i := 17) rfl rfl
theorem ml_RX0_70 : Cond.methodLink RX0 70 yX1_isNew ∈ gt := gt_2 (i := 20) rfl rfl
theorem ml_RX0_76 : Cond.methodLink RX0 76 yX2_minimalPolynomial ∈ gt := gt_2 (i := 21) rfl rfl
theorem ml_RX0_80 : Cond.methodLink RX0 80 yX1_size ∈ gt := gt_2 (i := 37) rfl rfl
theorem ml_RX0_84 : Cond.methodLink RX0 84 yX0_multiplyBy ∈ gt := gt_2 (i := 38) rfl rfl
theorem ml_RX0_88 : Cond.methodLink RX0 88 yX0_loadPolynomial ∈ gt := gt_2 (i := 62) rfl rfl
theorem ml_RX0_98 : Cond.methodLink RX0 98 yX5_byteAt ∈ gt := gt_2 (i := 157) rfl rfl
theorem ml_RX0_101 : Cond.methodLink RX0 101 yX0_takeData ∈ gt := gt_2 (i := 153) rfl rfl
theorem ml_RX0_105 : Cond.methodLink RX0 105 yX0_registerAt ∈ gt := gt_2 (i := 158) rfl rfl
theorem ml_RX0_108 : Cond.methodLink RX0 108 yX5_set ∈ gt := gt_2 (i := 162) rfl rfl
theorem ml_RX0_111 : Cond.methodLink RX0 111 yX5_at ∈ gt := gt_3 (i := 15) rfl rfl
theorem ml_RX0_117 : Cond.methodLink RX0 117 yX1_reduced ∈ gt := gt_3 (i := 24) rfl rfl
theorem ml_RX1_7 : Cond.methodLink RX1 7 yJ9_floorMod_7cf53 ∈ gt := gt_1 (i := 231) rfl rfl
theorem ml_RX1_13 : Cond.methodLink RX1 13 yX1_reduced ∈ gt := gt_1 (i := 228) rfl rfl
theorem ml_RX1_18 : Cond.methodLink RX1 18 yX1_doubled ∈ gt := gt_1 (i := 234) rfl rfl
theorem ml_RX1_21 : Cond.methodLink RX1 21 yJ9_min_7cf53 ∈ gt := gt_1 (i := 237) rfl rfl
theorem ml_RX1_24 : Cond.methodLink RX1 24 yX1_least ∈ gt := gt_1 (i := 225) rfl rfl
theorem ml_RX1_27 : Cond.methodLink RX1 27 yX1_isNew ∈ gt := gt_1 (i := 222) rfl rfl
theorem ml_RX1_31 : Cond.methodLink RX1 31 yX1_size ∈ gt := gt_2 (i := 0) rfl rfl
theorem ml_RX2_3 : Cond.methodLink RX2 3 objectInit ∈ gt := gt_1 (i := 26) rfl rfl
theorem ml_RX2_31 : Cond.methodLink RX2 31 yX1_reduced ∈ gt := gt_2 (i := 27) rfl rfl
theorem ml_RX2_37 : Cond.methodLink RX2 37 yX1_size ∈ gt := gt_2 (i := 25) rfl rfl
theorem ml_RX2_40 : Cond.methodLink RX2 40 yJ7_fill_53178 ∈ gt := gt_2 (i := 26) rfl rfl
theorem ml_RX2_46 : Cond.methodLink RX2 46 yX2_multiplyByRoot ∈ gt := gt_2 (i := 28) rfl rfl
theorem ml_RX2_50 : Cond.methodLink RX2 50 yX1_doubled ∈ gt := gt_2 (i := 36) rfl rfl
theorem ml_RX2_53 : Cond.methodLink RX2 53 yX2_product ∈ gt := gt_2 (i := 32) rfl rfl
theorem ml_RX3_3 : Cond.methodLink RX3 3 objectInit ∈ gt := gt_1 (i := 122) rfl rfl
theorem ml_RX3_50 : Cond.methodLink RX3 50 yX5_ones ∈ gt := gt_3 (i := 1) rfl rfl
theorem ml_RX3_60 : Cond.methodLink RX3 60 yX3_isMended ∈ gt := gt_3 (i := 2) rfl rfl
theorem ml_RX3_67 : Cond.methodLink RX3 67 yX5_apart ∈ gt := gt_3 (i := 57) rfl rfl
theorem ml_RX3_77 : Cond.methodLink RX3 77 yX3_becomesRight ∈ gt := gt_3 (i := 7) rfl rfl
theorem ml_RX3_81 : Cond.methodLink RX3 81 yX3_apartBesidesMarks ∈ gt := gt_3 (i := 52) rfl rfl
theorem ml_RX3_85 : Cond.methodLink RX3 85 yJ13_bitCount_95d88 ∈ gt := gt_3 (i := 56) rfl rfl
theorem ml_RX3_91 : Cond.methodLink RX3 91 yX0_divide ∈ gt := gt_3 (i := 11) rfl rfl
theorem ml_RX3_95 : Cond.methodLink RX3 95 yX3_takeSyndromes ∈ gt := gt_3 (i := 16) rfl rfl
theorem ml_RX3_98 : Cond.methodLink RX3 98 yX3_locate ∈ gt := gt_3 (i := 26) rfl rfl
theorem ml_RX3_101 : Cond.methodLink RX3 101 yX3_findWrong ∈ gt := gt_3 (i := 41) rfl rfl
theorem ml_RX3_105 : Cond.methodLink RX3 105 yX5_at ∈ gt := gt_3 (i := 50) rfl rfl
theorem ml_RX3_109 : Cond.methodLink RX3 109 yX5_set ∈ gt := gt_3 (i := 51) rfl rfl
theorem ml_RX3_113 : Cond.methodLink RX3 113 yX0_restAt ∈ gt := gt_3 (i := 20) rfl rfl
theorem ml_RX3_116 : Cond.methodLink RX3 116 yX2_product ∈ gt := gt_3 (i := 25) rfl rfl
theorem ml_RX3_122 : Cond.methodLink RX3 122 yJ7_fill_53178 ∈ gt := gt_3 (i := 30) rfl rfl
theorem ml_RX3_128 : Cond.methodLink RX3 128 yX3_missAt ∈ gt := gt_3 (i := 31) rfl rfl
theorem ml_RX3_131 : Cond.methodLink RX3 131 yX2_reciprocal ∈ gt := gt_3 (i := 35) rfl rfl
theorem ml_RX3_134 : Cond.methodLink RX3 134 arraycopyName ∈ gt := gt_3 (i := 36) rfl rfl
theorem ml_RX3_140 : Cond.methodLink RX3 140 yX3_addEarlier ∈ gt := gt_3 (i := 37) rfl rfl
theorem ml_RX3_150 : Cond.methodLink RX3 150 yX1_reduced ∈ gt := gt_3 (i := 45) rfl rfl
theorem ml_RX3_155 : Cond.methodLink RX3 155 yX3_locatorIsZero ∈ gt := gt_3 (i := 46) rfl rfl
theorem ml_RX4_3 : Cond.methodLink RX4 3 objectInit ∈ gt := gt_1 (i := 160) rfl rfl
theorem ml_RX4_24 : Cond.methodLink RX4 24 yX5_clear ∈ gt := gt_2 (i := 70) rfl rfl
theorem ml_RX4_27 : Cond.methodLink RX4 27 yX5_become ∈ gt := gt_2 (i := 71) rfl rfl
theorem ml_RX4_41 : Cond.methodLink RX4 41 yX5_apart ∈ gt := gt_2 (i := 179) rfl rfl
theorem ml_RX4_45 : Cond.methodLink RX4 45 yX5_at ∈ gt := gt_2 (i := 210) rfl rfl
theorem ml_RX4_49 : Cond.methodLink RX4 49 yX5_set ∈ gt := gt_2 (i := 211) rfl rfl
theorem ml_RX5_3 : Cond.methodLink RX5 3 objectInit ∈ gt := gt_1 (i := 64) rfl rfl
theorem ml_RX5_19 : Cond.methodLink RX5 19 yJ13_bitCount_95d88 ∈ gt := gt_2 (i := 183) rfl rfl
theorem ml_RX5_25 : Cond.methodLink RX5 25 yJ7_fill_d0a16 ∈ gt := gt_2 (i := 50) rfl rfl
theorem ml_RX5_31 : Cond.methodLink RX5 31 arraycopyName ∈ gt := gt_2 (i := 75) rfl rfl
theorem ml_RX5_37 : Cond.methodLink RX5 37 yX5_clear ∈ gt := gt_2 (i := 46) rfl rfl
theorem ml_RX5_40 : Cond.methodLink RX5 40 yX5_set ∈ gt := gt_2 (i := 53) rfl rfl
theorem ml_RX6_3 : Cond.methodLink RX6 3 objectInit ∈ gt := gt_1 (i := 18) rfl rfl
theorem ml_RX6_18 : Cond.methodLink RX6 18 yX0_init ∈ gt := gt_1 (i := 55) rfl rfl
theorem ml_RX6_27 : Cond.methodLink RX6 27 yX3_init ∈ gt := gt_1 (i := 119) rfl rfl
theorem ml_RX6_51 : Cond.methodLink RX6 51 yX1_tailLength ∈ gt := gt_1 (i := 219) rfl rfl
theorem ml_RX6_57 : Cond.methodLink RX6 57 yX2_become ∈ gt := gt_2 (i := 3) rfl rfl
theorem ml_RX6_61 : Cond.methodLink RX6 61 yX0_become ∈ gt := gt_2 (i := 9) rfl rfl
theorem ml_RX6_67 : Cond.methodLink RX6 67 yX4_renew ∈ gt := gt_2 (i := 66) rfl rfl
theorem ml_RX6_71 : Cond.methodLink RX6 71 yX5_clear ∈ gt := gt_2 (i := 78) rfl rfl
theorem ml_RX6_88 : Cond.methodLink RX6 88 yX2_has ∈ gt := gt_2 (i := 83) rfl rfl
theorem ml_RX6_92 : Cond.methodLink RX6 92 yX2_product ∈ gt := gt_2 (i := 87) rfl rfl
theorem ml_RX6_95 : Cond.methodLink RX6 95 yX2_reciprocal ∈ gt := gt_2 (i := 92) rfl rfl
theorem ml_RX6_101 : Cond.methodLink RX6 101 yX2_powerOfA ∈ gt := gt_2 (i := 102) rfl rfl
theorem ml_RX6_111 : Cond.methodLink RX6 111 yX2_minimalPolynomial ∈ gt := gt_2 (i := 114) rfl rfl
theorem ml_RX6_120 : Cond.methodLink RX6 120 yX6_hasByte ∈ gt := gt_2 (i := 123) rfl rfl
theorem ml_RX6_123 : Cond.methodLink RX6 123 yX5_byteAt ∈ gt := gt_2 (i := 127) rfl rfl
theorem ml_RX6_126 : Cond.methodLink RX6 126 yX5_setByte ∈ gt := gt_2 (i := 131) rfl rfl
theorem ml_RX6_132 : Cond.methodLink RX6 132 yJ9_min_7cf53 ∈ gt := gt_2 (i := 140) rfl rfl
theorem ml_RX6_137 : Cond.methodLink RX6 137 yX0_complete ∈ gt := gt_2 (i := 149) rfl rfl
theorem ml_RX6_140 : Cond.methodLink RX6 140 yX5_at ∈ gt := gt_2 (i := 163) rfl rfl
theorem ml_RX6_143 : Cond.methodLink RX6 143 yX6_hasPage ∈ gt := gt_2 (i := 171) rfl rfl
theorem ml_RX6_146 : Cond.methodLink RX6 146 yX4_program ∈ gt := gt_2 (i := 175) rfl rfl
theorem ml_RX6_150 : Cond.methodLink RX6 150 yX4_wipe ∈ gt := gt_2 (i := 193) rfl rfl
theorem ml_RX6_156 : Cond.methodLink RX6 156 yX6_hasBit ∈ gt := gt_2 (i := 202) rfl rfl
theorem ml_RX6_159 : Cond.methodLink RX6 159 yX4_turn ∈ gt := gt_2 (i := 206) rfl rfl
theorem ml_RX6_162 : Cond.methodLink RX6 162 yX4_hold ∈ gt := gt_2 (i := 216) rfl rfl
theorem ml_RX6_168 : Cond.methodLink RX6 168 yX5_ones ∈ gt := gt_2 (i := 220) rfl rfl
theorem ml_RX6_174 : Cond.methodLink RX6 174 yX5_set ∈ gt := gt_2 (i := 228) rfl rfl
theorem ml_RX6_180 : Cond.methodLink RX6 180 yX3_mend ∈ gt := gt_2 (i := 237) rfl rfl
theorem ml_RX6_187 : Cond.methodLink RX6 187 yX5_become ∈ gt := gt_3 (i := 58) rfl rfl
theorem ml_RX6_189 : Cond.methodLink RX6 189 yX5_becomeDifference ∈ gt := gt_3 (i := 59) rfl rfl
theorem ml_RX6_199 : Cond.methodLink RX6 199 yX0_divide ∈ gt := gt_3 (i := 71) rfl rfl
theorem ml_RX6_203 : Cond.methodLink RX6 203 yX0_restAt ∈ gt := gt_3 (i := 72) rfl rfl
theorem ml_RX6_206 : Cond.methodLink RX6 206 yX6_rewrite ∈ gt := gt_3 (i := 77) rfl rfl
theorem ml_RX6_209 : Cond.methodLink RX6 209 yX5_apart ∈ gt := gt_3 (i := 89) rfl rfl
theorem ml_RX7_1 : Cond.methodLink RX7 1 objectInit ∈ gt := gt_3 (i := 99) rfl rfl
theorem ml_RX7_60 : Cond.methodLink RX7 60 yX7_polynomial ∈ gt := gt_3 (i := 198) rfl rfl
theorem ml_RX7_68 : Cond.methodLink RX7 68 yX7_within ∈ gt := gt_3 (i := 188) rfl rfl
theorem ml_RX7_72 : Cond.methodLink RX7 72 yX7_by ∈ gt := gt_3 (i := 217) rfl rfl
theorem ml_RX7_76 : Cond.methodLink RX7 76 yX7_exponent ∈ gt := gt_3 (i := 209) rfl rfl
theorem ml_RX7_80 : Cond.methodLink RX7 80 yX7_generatorAt ∈ gt := gt_3 (i := 205) rfl rfl
theorem ml_RX7_83 : Cond.methodLink RX7 83 yX7_minimalOf ∈ gt := gt_3 (i := 213) rfl rfl
theorem ml_RX7_89 : Cond.methodLink RX7 89 yX7_product ∈ gt := gt_3 (i := 195) rfl rfl
theorem ml_RX7_93 : Cond.methodLink RX7 93 yX7_makeField ∈ gt := gt_3 (i := 191) rfl rfl
theorem ml_RX7_97 : Cond.methodLink RX7 97 yX7_makeGenerator ∈ gt := gt_3 (i := 201) rfl rfl
theorem ml_RX7_128 : Cond.methodLink RX7 128 yX7_isNumber ∈ gt := gt_3 (i := 225) rfl rfl
theorem ml_RX7_132 : Cond.methodLink RX7 132 yX7_over ∈ gt := gt_3 (i := 233) rfl rfl
theorem ml_RX7_139 : Cond.methodLink RX7 139 yX7_complete ∈ gt := gt_4 (i := 32) rfl rfl
theorem ml_RX7_142 : Cond.methodLink RX7 142 yX7_isPage ∈ gt := gt_4 (i := 40) rfl rfl
theorem ml_RX7_145 : Cond.methodLink RX7 145 yX7_set ∈ gt := gt_4 (i := 47) rfl rfl
theorem ml_RX7_149 : Cond.methodLink RX7 149 yX7_program ∈ gt := gt_4 (i := 43) rfl rfl
theorem ml_RX7_152 : Cond.methodLink RX7 152 yX7_wipe ∈ gt := gt_4 (i := 55) rfl rfl
theorem ml_RX7_155 : Cond.methodLink RX7 155 yX7_isBit ∈ gt := gt_4 (i := 63) rfl rfl
theorem ml_RX7_159 : Cond.methodLink RX7 159 yX7_countStuck ∈ gt := gt_4 (i := 71) rfl rfl
theorem ml_RX7_162 : Cond.methodLink RX7 162 yX7_countMarks ∈ gt := gt_4 (i := 79) rfl rfl
theorem ml_RX7_165 : Cond.methodLink RX7 165 yX7_isRight ∈ gt := gt_4 (i := 99) rfl rfl
theorem ml_RX7_169 : Cond.methodLink RX7 169 yX7_solves ∈ gt := gt_4 (i := 103) rfl rfl
theorem ml_RX7_172 : Cond.methodLink RX7 172 yX7_isMended ∈ gt := gt_4 (i := 95) rfl rfl
theorem ml_RX7_175 : Cond.methodLink RX7 175 yX7_mend ∈ gt := gt_4 (i := 91) rfl rfl
theorem ml_RX7_178 : Cond.methodLink RX7 178 yX7_countZeros ∈ gt := gt_4 (i := 127) rfl rfl
theorem cl_RL_7 : Cond.classLink RL 7 RX6 ∈ gt := gt_1 (i := 13) rfl rfl
theorem cl_RL_10 : Cond.classLink RL 10 RX7 ∈ gt := gt_3 (i := 94) rfl rfl
theorem cl_RX0_25 : Cond.classLink RX0 25 RX5 ∈ gt := gt_1 (i := 59) rfl rfl
theorem cl_RX3_9 : Cond.classLink RX3 9 RX5 ∈ gt := gt_1 (i := 123) rfl rfl
theorem cl_RX4_9 : Cond.classLink RX4 9 RX5 ∈ gt := gt_1 (i := 161) rfl rfl
theorem cl_RX6_9 : Cond.classLink RX6 9 RX2 ∈ gt := gt_1 (i := 21) rfl rfl
theorem cl_RX6_16 : Cond.classLink RX6 16 RX0 ∈ gt := gt_1 (i := 53) rfl rfl
theorem cl_RX6_25 : Cond.classLink RX6 25 RX3 ∈ gt := gt_1 (i := 117) rfl rfl
theorem cl_RX6_34 : Cond.classLink RX6 34 RX4 ∈ gt := gt_1 (i := 154) rfl rfl
theorem cl_RX6_41 : Cond.classLink RX6 41 RX5 ∈ gt := gt_1 (i := 182) rfl rfl
theorem kl_RJ13_314 : Cond.constantLong RJ13 314 (6148914691236517205) ∈ gt := gt_2 (i := 186) rfl rfl
theorem kl_RJ13_316 : Cond.constantLong RJ13 316 (3689348814741910323) ∈ gt := gt_2 (i := 187) rfl rfl
theorem kl_RJ13_318 : Cond.constantLong RJ13 318 (1085102592571150095) ∈ gt := gt_2 (i := 188) rfl rfl
theorem kl_RL_48 : Cond.constantLong RL 48 (4294967295) ∈ gt := gt_4 (i := 135) rfl rfl
theorem kl_RX3_75 : Cond.constantLong RX3 75 (-1) ∈ gt := gt_3 (i := 6) rfl rfl
theorem kl_RX4_39 : Cond.constantLong RX4 39 (-1) ∈ gt := gt_2 (i := 197) rfl rfl
theorem kl_RX5_15 : Cond.constantLong RX5 15 (-1) ∈ gt := gt_2 (i := 57) rfl rfl
theorem kl_RX5_17 : Cond.constantLong RX5 17 (255) ∈ gt := gt_2 (i := 135) rfl rfl
theorem kl_RX7_137 : Cond.constantLong RX7 137 (255) ∈ gt := gt_4 (i := 23) rfl rfl
theorem ki_RX6_99 : Cond.constant RX6 99 (-100000) ∈ gt := gt_2 (i := 100) rfl rfl
theorem ki_RX6_100 : Cond.constant RX6 100 (100000) ∈ gt := gt_2 (i := 101) rfl rfl
theorem ki_RX7_22 : Cond.constant RX7 22 (35200) ∈ gt := gt_3 (i := 100) rfl rfl
theorem ki_RX7_135 : Cond.constant RX7 135 (-100000) ∈ gt := gt_4 (i := 1) rfl rfl
theorem ki_RX7_136 : Cond.constant RX7 136 (100000) ∈ gt := gt_4 (i := 2) rfl rfl
theorem oi_in : Cond.instanceMethod objectInit ∈ gt := gt_1 (i := 19) rfl rfl
theorem oi_co : Cond.code objectInit ⟨#[0xb1]⟩ 1 none ∈ gt := gt_1 (i := 20) rfl rfl
theorem ac_nat : Cond.native arraycopyName ∈ gt := gt_2 (i := 77) rfl rfl
theorem ac_sta : Cond.static arraycopyName ∈ gt := gt_2 (i := 76) rfl rfl
theorem ac_ini : Cond.initialized "java/lang/System" ∈ gt := gt_1 (i := 11) rfl rfl
theorem aw_i : Cond.arrayClass .int ∈ gt := gt_1 (i := 52) rfl rfl
theorem aw_l : Cond.arrayClass .long ∈ gt := gt_1 (i := 71) rfl rfl
theorem aw_z : Cond.arrayClass .boolean ∈ gt := gt_3 (i := 183) rfl rfl
theorem ins_0 : Cond.instantiable RX0 12 ∈ gt := gt_1 (i := 54) rfl rfl
theorem ini_0 : Cond.initialized RX0 ∈ gt := gt_1 (i := 3) rfl rfl
theorem ins_2 : Cond.instantiable RX2 5 ∈ gt := gt_1 (i := 22) rfl rfl
theorem ini_2 : Cond.initialized RX2 ∈ gt := gt_1 (i := 2) rfl rfl
theorem ins_3 : Cond.instantiable RX3 9 ∈ gt := gt_1 (i := 118) rfl rfl
theorem ini_3 : Cond.initialized RX3 ∈ gt := gt_1 (i := 5) rfl rfl
theorem ins_4 : Cond.instantiable RX4 4 ∈ gt := gt_1 (i := 156) rfl rfl
theorem ini_4 : Cond.initialized RX4 ∈ gt := gt_1 (i := 6) rfl rfl
theorem ins_5 : Cond.instantiable RX5 1 ∈ gt := gt_1 (i := 60) rfl rfl
theorem ini_5 : Cond.initialized RX5 ∈ gt := gt_1 (i := 4) rfl rfl
theorem ins_6 : Cond.instantiable RX6 10 ∈ gt := gt_1 (i := 14) rfl rfl
theorem ini_6 : Cond.initialized RX6 ∈ gt := gt_1 (i := 1) rfl rfl
theorem ins_7 : Cond.instantiable RX7 27 ∈ gt := gt_3 (i := 95) rfl rfl
theorem ini_7 : Cond.initialized RX7 ∈ gt := gt_1 (i := 7) rfl rfl
abbrev jJ13_bitCount_95d88 : Jt := (yJ13_bitCount_95d88, cJ13_bitCount_95d88, 2, (some .int))
theorem mk_J13_bitCount_95d88 : Mk jJ13_bitCount_95d88 1 := ⟨gt_2 (i := 185) rfl rfl, gt_1 (i := 12) rfl rfl, by decide +kernel, by decide +kernel, by decide +kernel, by decide +kernel⟩
theorem st_J13_bitCount_95d88 : Cond.static yJ13_bitCount_95d88 ∈ gt := gt_2 (i := 184) rfl rfl
abbrev jJ7_fill_53178 : Jt := (yJ7_fill_53178, cJ7_fill_53178, 4, none)
theorem mk_J7_fill_53178 : Mk jJ7_fill_53178 2 := ⟨gt_2 (i := 19) rfl rfl, gt_1 (i := 10) rfl rfl, by decide +kernel, by decide +kernel, by decide +kernel, by decide +kernel⟩
theorem st_J7_fill_53178 : Cond.static yJ7_fill_53178 ∈ gt := gt_2 (i := 18) rfl rfl
abbrev jJ7_fill_d0a16 : Jt := (yJ7_fill_d0a16, cJ7_fill_d0a16, 5, none)
theorem mk_J7_fill_d0a16 : Mk jJ7_fill_d0a16 2 := ⟨gt_2 (i := 52) rfl rfl, gt_1 (i := 10) rfl rfl, by decide +kernel, by decide +kernel, by decide +kernel, by decide +kernel⟩
theorem st_J7_fill_d0a16 : Cond.static yJ7_fill_d0a16 ∈ gt := gt_2 (i := 51) rfl rfl
abbrev jJ9_floorMod_7cf53 : Jt := (yJ9_floorMod_7cf53, cJ9_floorMod_7cf53, 3, (some .int))
theorem mk_J9_floorMod_7cf53 : Mk jJ9_floorMod_7cf53 2 := ⟨gt_1 (i := 233) rfl rfl, gt_1 (i := 9) rfl rfl, by decide +kernel, by decide +kernel, by decide +kernel, by decide +kernel⟩
theorem st_J9_floorMod_7cf53 : Cond.static yJ9_floorMod_7cf53 ∈ gt := gt_1 (i := 232) rfl rfl
abbrev jJ9_min_7cf53 : Jt := (yJ9_min_7cf53, cJ9_min_7cf53, 2, (some .int))
theorem mk_J9_min_7cf53 : Mk jJ9_min_7cf53 2 := ⟨gt_1 (i := 239) rfl rfl, gt_1 (i := 9) rfl rfl, by decide +kernel, by decide +kernel, by decide +kernel, by decide +kernel⟩
theorem st_J9_min_7cf53 : Cond.static yJ9_min_7cf53 ∈ gt := gt_1 (i := 238) rfl rfl
abbrev jL_law : Jt := (yL_law, cL_law, 4, ret)
abbrev jX0_become : Jt := (yX0_become, cX0_become, 3, none)
theorem mk_X0_become : Mk jX0_become 2 := ⟨gt_2 (i := 12) rfl rfl, gt_1 (i := 3) rfl rfl, by decide +kernel, by decide +kernel, by decide +kernel, by decide +kernel⟩
theorem in_X0_become : Cond.instanceMethod yX0_become ∈ gt := gt_2 (i := 10) rfl rfl
theorem se_X0_become : Cond.selects RX0 yX0_become yX0_become ∈ gt := gt_2 (i := 11) rfl rfl
abbrev jX0_complete : Jt := (yX0_complete, cX0_complete, 3, none)
theorem mk_X0_complete : Mk jX0_complete 1 := ⟨gt_2 (i := 152) rfl rfl, gt_1 (i := 3) rfl rfl, by decide +kernel, by decide +kernel, by decide +kernel, by decide +kernel⟩
theorem in_X0_complete : Cond.instanceMethod yX0_complete ∈ gt := gt_2 (i := 150) rfl rfl
theorem se_X0_complete : Cond.selects RX0 yX0_complete yX0_complete ∈ gt := gt_2 (i := 151) rfl rfl
abbrev jX0_divide : Jt := (yX0_divide, cX0_divide, 5, (some .boolean))
theorem mk_X0_divide : Mk jX0_divide 1 := ⟨gt_3 (i := 14) rfl rfl, gt_1 (i := 3) rfl rfl, by decide +kernel, by decide +kernel, by decide +kernel, by decide +kernel⟩
theorem in_X0_divide : Cond.instanceMethod yX0_divide ∈ gt := gt_3 (i := 12) rfl rfl
theorem se_X0_divide : Cond.selects RX0 yX0_divide yX0_divide ∈ gt := gt_3 (i := 13) rfl rfl
abbrev jX0_init : Jt := (yX0_init, cX0_init, 2, none)
theorem mk_X0_init : Mk jX0_init 1 := ⟨gt_1 (i := 57) rfl rfl, gt_1 (i := 3) rfl rfl, by decide +kernel, by decide +kernel, by decide +kernel, by decide +kernel⟩
theorem in_X0_init : Cond.instanceMethod yX0_init ∈ gt := gt_1 (i := 56) rfl rfl
abbrev jX0_loadPolynomial : Jt := (yX0_loadPolynomial, cX0_loadPolynomial, 4, none)
theorem mk_X0_loadPolynomial : Mk jX0_loadPolynomial 0 := ⟨gt_2 (i := 65) rfl rfl, gt_1 (i := 3) rfl rfl, by decide +kernel, by decide +kernel, by decide +kernel, by decide +kernel⟩
theorem in_X0_loadPolynomial : Cond.instanceMethod yX0_loadPolynomial ∈ gt := gt_2 (i := 64) rfl rfl
theorem se_X0_loadPolynomial : Cond.selects RX0 yX0_loadPolynomial yX0_loadPolynomial ∈ gt := gt_0 (i := 4) rfl rfl
abbrev jX0_makePolynomial : Jt := (yX0_makePolynomial, cX0_makePolynomial, 2, none)
theorem mk_X0_makePolynomial : Mk jX0_makePolynomial 0 := ⟨gt_2 (i := 16) rfl rfl, gt_1 (i := 3) rfl rfl, by decide +kernel, by decide +kernel, by decide +kernel, by decide +kernel⟩
theorem in_X0_makePolynomial : Cond.instanceMethod yX0_makePolynomial ∈ gt := gt_2 (i := 15) rfl rfl
theorem se_X0_makePolynomial : Cond.selects RX0 yX0_makePolynomial yX0_makePolynomial ∈ gt := gt_0 (i := 0) rfl rfl
abbrev jX0_makeSteps : Jt := (yX0_makeSteps, cX0_makeSteps, 7, none)
theorem mk_X0_makeSteps : Mk jX0_makeSteps 0 := ⟨gt_2 (i := 61) rfl rfl, gt_1 (i := 3) rfl rfl, by decide +kernel, by decide +kernel, by decide +kernel, by decide +kernel⟩
theorem in_X0_makeSteps : Cond.instanceMethod yX0_makeSteps ∈ gt := gt_2 (i := 60) rfl rfl
theorem se_X0_makeSteps : Cond.selects RX0 yX0_makeSteps yX0_makeSteps ∈ gt := gt_0 (i := 3) rfl rfl
abbrev jX0_multiplyBy : Jt := (yX0_multiplyBy, cX0_multiplyBy, 5, none)
theorem mk_X0_multiplyBy : Mk jX0_multiplyBy 2 := ⟨gt_2 (i := 41) rfl rfl, gt_1 (i := 3) rfl rfl, by decide +kernel, by decide +kernel, by decide +kernel, by decide +kernel⟩
theorem in_X0_multiplyBy : Cond.instanceMethod yX0_multiplyBy ∈ gt := gt_2 (i := 40) rfl rfl
theorem se_X0_multiplyBy : Cond.selects RX0 yX0_multiplyBy yX0_multiplyBy ∈ gt := gt_0 (i := 2) rfl rfl
abbrev jX0_registerAt : Jt := (yX0_registerAt, cX0_registerAt, 2, (some .int))
theorem mk_X0_registerAt : Mk jX0_registerAt 1 := ⟨gt_2 (i := 161) rfl rfl, gt_1 (i := 3) rfl rfl, by decide +kernel, by decide +kernel, by decide +kernel, by decide +kernel⟩
theorem in_X0_registerAt : Cond.instanceMethod yX0_registerAt ∈ gt := gt_2 (i := 160) rfl rfl
theorem se_X0_registerAt : Cond.selects RX0 yX0_registerAt yX0_registerAt ∈ gt := gt_0 (i := 7) rfl rfl
abbrev jX0_restAt : Jt := (yX0_restAt, cX0_restAt, 7, (some .int))
theorem mk_X0_restAt : Mk jX0_restAt 1 := ⟨gt_3 (i := 23) rfl rfl, gt_1 (i := 3) rfl rfl, by decide +kernel, by decide +kernel, by decide +kernel, by decide +kernel⟩
theorem in_X0_restAt : Cond.instanceMethod yX0_restAt ∈ gt := gt_3 (i := 21) rfl rfl
theorem se_X0_restAt : Cond.selects RX0 yX0_restAt yX0_restAt ∈ gt := gt_3 (i := 22) rfl rfl
abbrev jX0_takeData : Jt := (yX0_takeData, cX0_takeData, 4, none)
theorem mk_X0_takeData : Mk jX0_takeData 1 := ⟨gt_2 (i := 156) rfl rfl, gt_1 (i := 3) rfl rfl, by decide +kernel, by decide +kernel, by decide +kernel, by decide +kernel⟩
theorem in_X0_takeData : Cond.instanceMethod yX0_takeData ∈ gt := gt_2 (i := 155) rfl rfl
theorem se_X0_takeData : Cond.selects RX0 yX0_takeData yX0_takeData ∈ gt := gt_0 (i := 6) rfl rfl
abbrev jX1_doubled : Jt := (yX1_doubled, cX1_doubled, 2, (some .int))
theorem mk_X1_doubled : Mk jX1_doubled 2 := ⟨gt_1 (i := 236) rfl rfl, gt_1 (i := 8) rfl rfl, by decide +kernel, by decide +kernel, by decide +kernel, by decide +kernel⟩
theorem st_X1_doubled : Cond.static yX1_doubled ∈ gt := gt_1 (i := 235) rfl rfl
abbrev jX1_isNew : Jt := (yX1_isNew, cX1_isNew, 4, (some .boolean))
theorem mk_X1_isNew : Mk jX1_isNew 2 := ⟨gt_1 (i := 224) rfl rfl, gt_1 (i := 8) rfl rfl, by decide +kernel, by decide +kernel, by decide +kernel, by decide +kernel⟩
theorem st_X1_isNew : Cond.static yX1_isNew ∈ gt := gt_1 (i := 223) rfl rfl
abbrev jX1_least : Jt := (yX1_least, cX1_least, 6, (some .int))
theorem mk_X1_least : Mk jX1_least 2 := ⟨gt_1 (i := 227) rfl rfl, gt_1 (i := 8) rfl rfl, by decide +kernel, by decide +kernel, by decide +kernel, by decide +kernel⟩
theorem st_X1_least : Cond.static yX1_least ∈ gt := gt_1 (i := 226) rfl rfl
abbrev jX1_reduced : Jt := (yX1_reduced, cX1_reduced, 2, (some .int))
theorem mk_X1_reduced : Mk jX1_reduced 2 := ⟨gt_1 (i := 230) rfl rfl, gt_1 (i := 8) rfl rfl, by decide +kernel, by decide +kernel, by decide +kernel, by decide +kernel⟩
theorem st_X1_reduced : Cond.static yX1_reduced ∈ gt := gt_1 (i := 229) rfl rfl
abbrev jX1_size : Jt := (yX1_size, cX1_size, 6, (some .int))
theorem mk_X1_size : Mk jX1_size 2 := ⟨gt_2 (i := 2) rfl rfl, gt_1 (i := 8) rfl rfl, by decide +kernel, by decide +kernel, by decide +kernel, by decide +kernel⟩
theorem st_X1_size : Cond.static yX1_size ∈ gt := gt_2 (i := 1) rfl rfl
abbrev jX1_tailLength : Jt := (yX1_tailLength, cX1_tailLength, 4, (some .int))
theorem mk_X1_tailLength : Mk jX1_tailLength 2 := ⟨gt_1 (i := 221) rfl rfl, gt_1 (i := 8) rfl rfl, by decide +kernel, by decide +kernel, by decide +kernel, by decide +kernel⟩
theorem st_X1_tailLength : Cond.static yX1_tailLength ∈ gt := gt_1 (i := 220) rfl rfl
abbrev jX2_become : Jt := (yX2_become, cX2_become, 5, none)
theorem mk_X2_become : Mk jX2_become 1 := ⟨gt_2 (i := 6) rfl rfl, gt_1 (i := 2) rfl rfl, by decide +kernel, by decide +kernel, by decide +kernel, by decide +kernel⟩
theorem in_X2_become : Cond.instanceMethod yX2_become ∈ gt := gt_2 (i := 4) rfl rfl
theorem se_X2_become : Cond.selects RX2 yX2_become yX2_become ∈ gt := gt_2 (i := 5) rfl rfl
abbrev jX2_has : Jt := (yX2_has, cX2_has, 2, (some .boolean))
theorem mk_X2_has : Mk jX2_has 1 := ⟨gt_2 (i := 86) rfl rfl, gt_1 (i := 2) rfl rfl, by decide +kernel, by decide +kernel, by decide +kernel, by decide +kernel⟩
theorem in_X2_has : Cond.instanceMethod yX2_has ∈ gt := gt_2 (i := 84) rfl rfl
theorem se_X2_has : Cond.selects RX2 yX2_has yX2_has ∈ gt := gt_2 (i := 85) rfl rfl
abbrev jX2_init : Jt := (yX2_init, cX2_init, 1, none)
theorem mk_X2_init : Mk jX2_init 0 := ⟨gt_1 (i := 25) rfl rfl, gt_1 (i := 2) rfl rfl, by decide +kernel, by decide +kernel, by decide +kernel, by decide +kernel⟩
theorem in_X2_init : Cond.instanceMethod yX2_init ∈ gt := gt_1 (i := 24) rfl rfl
abbrev jX2_minimalPolynomial : Jt := (yX2_minimalPolynomial, cX2_minimalPolynomial, 6, (some .int))
theorem mk_X2_minimalPolynomial : Mk jX2_minimalPolynomial 1 := ⟨gt_2 (i := 24) rfl rfl, gt_1 (i := 2) rfl rfl, by decide +kernel, by decide +kernel, by decide +kernel, by decide +kernel⟩
theorem in_X2_minimalPolynomial : Cond.instanceMethod yX2_minimalPolynomial ∈ gt := gt_2 (i := 22) rfl rfl
theorem se_X2_minimalPolynomial : Cond.selects RX2 yX2_minimalPolynomial yX2_minimalPolynomial ∈ gt := gt_2 (i := 23) rfl rfl
abbrev jX2_multiplyByRoot : Jt := (yX2_multiplyByRoot, cX2_multiplyByRoot, 4, none)
theorem mk_X2_multiplyByRoot : Mk jX2_multiplyByRoot 2 := ⟨gt_2 (i := 31) rfl rfl, gt_1 (i := 2) rfl rfl, by decide +kernel, by decide +kernel, by decide +kernel, by decide +kernel⟩
theorem in_X2_multiplyByRoot : Cond.instanceMethod yX2_multiplyByRoot ∈ gt := gt_2 (i := 30) rfl rfl
theorem se_X2_multiplyByRoot : Cond.selects RX2 yX2_multiplyByRoot yX2_multiplyByRoot ∈ gt := gt_0 (i := 1) rfl rfl
abbrev jX2_powerOfA : Jt := (yX2_powerOfA, cX2_powerOfA, 2, (some .int))
theorem mk_X2_powerOfA : Mk jX2_powerOfA 1 := ⟨gt_2 (i := 105) rfl rfl, gt_1 (i := 2) rfl rfl, by decide +kernel, by decide +kernel, by decide +kernel, by decide +kernel⟩
theorem in_X2_powerOfA : Cond.instanceMethod yX2_powerOfA ∈ gt := gt_2 (i := 103) rfl rfl
theorem se_X2_powerOfA : Cond.selects RX2 yX2_powerOfA yX2_powerOfA ∈ gt := gt_2 (i := 104) rfl rfl
abbrev jX2_product : Jt := (yX2_product, cX2_product, 4, (some .int))
theorem mk_X2_product : Mk jX2_product 2 := ⟨gt_2 (i := 35) rfl rfl, gt_1 (i := 2) rfl rfl, by decide +kernel, by decide +kernel, by decide +kernel, by decide +kernel⟩
theorem in_X2_product : Cond.instanceMethod yX2_product ∈ gt := gt_2 (i := 33) rfl rfl
theorem se_X2_product : Cond.selects RX2 yX2_product yX2_product ∈ gt := gt_2 (i := 34) rfl rfl
abbrev jX2_reciprocal : Jt := (yX2_reciprocal, cX2_reciprocal, 3, (some .int))
theorem mk_X2_reciprocal : Mk jX2_reciprocal 1 := ⟨gt_2 (i := 95) rfl rfl, gt_1 (i := 2) rfl rfl, by decide +kernel, by decide +kernel, by decide +kernel, by decide +kernel⟩
theorem in_X2_reciprocal : Cond.instanceMethod yX2_reciprocal ∈ gt := gt_2 (i := 93) rfl rfl
theorem se_X2_reciprocal : Cond.selects RX2 yX2_reciprocal yX2_reciprocal ∈ gt := gt_2 (i := 94) rfl rfl
abbrev jX3_addEarlier : Jt := (yX3_addEarlier, cX3_addEarlier, 4, none)
theorem mk_X3_addEarlier : Mk jX3_addEarlier 2 := ⟨gt_3 (i := 40) rfl rfl, gt_1 (i := 5) rfl rfl, by decide +kernel, by decide +kernel, by decide +kernel, by decide +kernel⟩
theorem in_X3_addEarlier : Cond.instanceMethod yX3_addEarlier ∈ gt := gt_3 (i := 39) rfl rfl
theorem se_X3_addEarlier : Cond.selects RX3 yX3_addEarlier yX3_addEarlier ∈ gt := gt_0 (i := 15) rfl rfl
abbrev jX3_apartBesidesMarks : Jt := (yX3_apartBesidesMarks, cX3_apartBesidesMarks, 4, (some .int))
theorem mk_X3_apartBesidesMarks : Mk jX3_apartBesidesMarks 1 := ⟨gt_3 (i := 55) rfl rfl, gt_1 (i := 5) rfl rfl, by decide +kernel, by decide +kernel, by decide +kernel, by decide +kernel⟩
theorem in_X3_apartBesidesMarks : Cond.instanceMethod yX3_apartBesidesMarks ∈ gt := gt_3 (i := 54) rfl rfl
theorem se_X3_apartBesidesMarks : Cond.selects RX3 yX3_apartBesidesMarks yX3_apartBesidesMarks ∈ gt := gt_0 (i := 18) rfl rfl
abbrev jX3_becomesRight : Jt := (yX3_becomesRight, cX3_becomesRight, 3, (some .boolean))
theorem mk_X3_becomesRight : Mk jX3_becomesRight 0 := ⟨gt_3 (i := 10) rfl rfl, gt_1 (i := 5) rfl rfl, by decide +kernel, by decide +kernel, by decide +kernel, by decide +kernel⟩
theorem in_X3_becomesRight : Cond.instanceMethod yX3_becomesRight ∈ gt := gt_3 (i := 9) rfl rfl
theorem se_X3_becomesRight : Cond.selects RX3 yX3_becomesRight yX3_becomesRight ∈ gt := gt_0 (i := 11) rfl rfl
abbrev jX3_findWrong : Jt := (yX3_findWrong, cX3_findWrong, 4, (some .boolean))
theorem mk_X3_findWrong : Mk jX3_findWrong 1 := ⟨gt_3 (i := 44) rfl rfl, gt_1 (i := 5) rfl rfl, by decide +kernel, by decide +kernel, by decide +kernel, by decide +kernel⟩
theorem in_X3_findWrong : Cond.instanceMethod yX3_findWrong ∈ gt := gt_3 (i := 43) rfl rfl
theorem se_X3_findWrong : Cond.selects RX3 yX3_findWrong yX3_findWrong ∈ gt := gt_0 (i := 16) rfl rfl
abbrev jX3_init : Jt := (yX3_init, cX3_init, 3, none)
theorem mk_X3_init : Mk jX3_init 2 := ⟨gt_1 (i := 121) rfl rfl, gt_1 (i := 5) rfl rfl, by decide +kernel, by decide +kernel, by decide +kernel, by decide +kernel⟩
theorem in_X3_init : Cond.instanceMethod yX3_init ∈ gt := gt_1 (i := 120) rfl rfl
abbrev jX3_isMended : Jt := (yX3_isMended, cX3_isMended, 9, (some .boolean))
theorem mk_X3_isMended : Mk jX3_isMended 3 := ⟨gt_3 (i := 5) rfl rfl, gt_1 (i := 5) rfl rfl, by decide +kernel, by decide +kernel, by decide +kernel, by decide +kernel⟩
theorem in_X3_isMended : Cond.instanceMethod yX3_isMended ∈ gt := gt_3 (i := 4) rfl rfl
theorem se_X3_isMended : Cond.selects RX3 yX3_isMended yX3_isMended ∈ gt := gt_0 (i := 10) rfl rfl
abbrev jX3_locate : Jt := (yX3_locate, cX3_locate, 7, (some .int))
theorem mk_X3_locate : Mk jX3_locate 0 := ⟨gt_3 (i := 29) rfl rfl, gt_1 (i := 5) rfl rfl, by decide +kernel, by decide +kernel, by decide +kernel, by decide +kernel⟩
theorem in_X3_locate : Cond.instanceMethod yX3_locate ∈ gt := gt_3 (i := 28) rfl rfl
theorem se_X3_locate : Cond.selects RX3 yX3_locate yX3_locate ∈ gt := gt_0 (i := 13) rfl rfl
abbrev jX3_locatorIsZero : Jt := (yX3_locatorIsZero, cX3_locatorIsZero, 4, (some .boolean))
theorem mk_X3_locatorIsZero : Mk jX3_locatorIsZero 1 := ⟨gt_3 (i := 49) rfl rfl, gt_1 (i := 5) rfl rfl, by decide +kernel, by decide +kernel, by decide +kernel, by decide +kernel⟩
theorem in_X3_locatorIsZero : Cond.instanceMethod yX3_locatorIsZero ∈ gt := gt_3 (i := 48) rfl rfl
theorem se_X3_locatorIsZero : Cond.selects RX3 yX3_locatorIsZero yX3_locatorIsZero ∈ gt := gt_0 (i := 17) rfl rfl
abbrev jX3_mend : Jt := (yX3_mend, cX3_mend, 4, (some .int))
theorem mk_X3_mend : Mk jX3_mend 1 := ⟨gt_3 (i := 0) rfl rfl, gt_1 (i := 5) rfl rfl, by decide +kernel, by decide +kernel, by decide +kernel, by decide +kernel⟩
theorem in_X3_mend : Cond.instanceMethod yX3_mend ∈ gt := gt_2 (i := 238) rfl rfl
theorem se_X3_mend : Cond.selects RX3 yX3_mend yX3_mend ∈ gt := gt_2 (i := 239) rfl rfl
abbrev jX3_missAt : Jt := (yX3_missAt, cX3_missAt, 5, (some .int))
theorem mk_X3_missAt : Mk jX3_missAt 2 := ⟨gt_3 (i := 34) rfl rfl, gt_1 (i := 5) rfl rfl, by decide +kernel, by decide +kernel, by decide +kernel, by decide +kernel⟩
theorem in_X3_missAt : Cond.instanceMethod yX3_missAt ∈ gt := gt_3 (i := 33) rfl rfl
theorem se_X3_missAt : Cond.selects RX3 yX3_missAt yX3_missAt ∈ gt := gt_0 (i := 14) rfl rfl
abbrev jX3_takeSyndromes : Jt := (yX3_takeSyndromes, cX3_takeSyndromes, 3, none)
theorem mk_X3_takeSyndromes : Mk jX3_takeSyndromes 0 := ⟨gt_3 (i := 19) rfl rfl, gt_1 (i := 5) rfl rfl, by decide +kernel, by decide +kernel, by decide +kernel, by decide +kernel⟩
theorem in_X3_takeSyndromes : Cond.instanceMethod yX3_takeSyndromes ∈ gt := gt_3 (i := 18) rfl rfl
theorem se_X3_takeSyndromes : Cond.selects RX3 yX3_takeSyndromes yX3_takeSyndromes ∈ gt := gt_0 (i := 12) rfl rfl
abbrev jX4_hold : Jt := (yX4_hold, cX4_hold, 3, none)
theorem mk_X4_hold : Mk jX4_hold 2 := ⟨gt_2 (i := 219) rfl rfl, gt_1 (i := 6) rfl rfl, by decide +kernel, by decide +kernel, by decide +kernel, by decide +kernel⟩
theorem in_X4_hold : Cond.instanceMethod yX4_hold ∈ gt := gt_2 (i := 217) rfl rfl
theorem se_X4_hold : Cond.selects RX4 yX4_hold yX4_hold ∈ gt := gt_2 (i := 218) rfl rfl
abbrev jX4_init : Jt := (yX4_init, cX4_init, 1, none)
theorem mk_X4_init : Mk jX4_init 0 := ⟨gt_1 (i := 159) rfl rfl, gt_1 (i := 6) rfl rfl, by decide +kernel, by decide +kernel, by decide +kernel, by decide +kernel⟩
theorem in_X4_init : Cond.instanceMethod yX4_init ∈ gt := gt_1 (i := 158) rfl rfl
abbrev jX4_program : Jt := (yX4_program, cX4_program, 3, (some .int))
theorem mk_X4_program : Mk jX4_program 1 := ⟨gt_2 (i := 178) rfl rfl, gt_1 (i := 6) rfl rfl, by decide +kernel, by decide +kernel, by decide +kernel, by decide +kernel⟩
theorem in_X4_program : Cond.instanceMethod yX4_program ∈ gt := gt_2 (i := 176) rfl rfl
theorem se_X4_program : Cond.selects RX4 yX4_program yX4_program ∈ gt := gt_2 (i := 177) rfl rfl
abbrev jX4_renew : Jt := (yX4_renew, cX4_renew, 2, none)
theorem mk_X4_renew : Mk jX4_renew 1 := ⟨gt_2 (i := 69) rfl rfl, gt_1 (i := 6) rfl rfl, by decide +kernel, by decide +kernel, by decide +kernel, by decide +kernel⟩
theorem in_X4_renew : Cond.instanceMethod yX4_renew ∈ gt := gt_2 (i := 67) rfl rfl
theorem se_X4_renew : Cond.selects RX4 yX4_renew yX4_renew ∈ gt := gt_2 (i := 68) rfl rfl
abbrev jX4_turn : Jt := (yX4_turn, cX4_turn, 2, (some .int))
theorem mk_X4_turn : Mk jX4_turn 1 := ⟨gt_2 (i := 209) rfl rfl, gt_1 (i := 6) rfl rfl, by decide +kernel, by decide +kernel, by decide +kernel, by decide +kernel⟩
theorem in_X4_turn : Cond.instanceMethod yX4_turn ∈ gt := gt_2 (i := 207) rfl rfl
theorem se_X4_turn : Cond.selects RX4 yX4_turn yX4_turn ∈ gt := gt_2 (i := 208) rfl rfl
abbrev jX4_wipe : Jt := (yX4_wipe, cX4_wipe, 3, none)
theorem mk_X4_wipe : Mk jX4_wipe 1 := ⟨gt_2 (i := 196) rfl rfl, gt_1 (i := 6) rfl rfl, by decide +kernel, by decide +kernel, by decide +kernel, by decide +kernel⟩
theorem in_X4_wipe : Cond.instanceMethod yX4_wipe ∈ gt := gt_2 (i := 194) rfl rfl
theorem se_X4_wipe : Cond.selects RX4 yX4_wipe yX4_wipe ∈ gt := gt_2 (i := 195) rfl rfl
abbrev jX5_apart : Jt := (yX5_apart, cX5_apart, 4, (some .int))
theorem mk_X5_apart : Mk jX5_apart 1 := ⟨gt_2 (i := 182) rfl rfl, gt_1 (i := 4) rfl rfl, by decide +kernel, by decide +kernel, by decide +kernel, by decide +kernel⟩
theorem in_X5_apart : Cond.instanceMethod yX5_apart ∈ gt := gt_2 (i := 180) rfl rfl
theorem se_X5_apart : Cond.selects RX5 yX5_apart yX5_apart ∈ gt := gt_2 (i := 181) rfl rfl
abbrev jX5_at : Jt := (yX5_at, cX5_at, 2, (some .int))
theorem mk_X5_at : Mk jX5_at 1 := ⟨gt_2 (i := 166) rfl rfl, gt_1 (i := 4) rfl rfl, by decide +kernel, by decide +kernel, by decide +kernel, by decide +kernel⟩
theorem in_X5_at : Cond.instanceMethod yX5_at ∈ gt := gt_2 (i := 164) rfl rfl
theorem se_X5_at : Cond.selects RX5 yX5_at yX5_at ∈ gt := gt_2 (i := 165) rfl rfl
abbrev jX5_become : Jt := (yX5_become, cX5_become, 2, none)
theorem mk_X5_become : Mk jX5_become 1 := ⟨gt_2 (i := 74) rfl rfl, gt_1 (i := 4) rfl rfl, by decide +kernel, by decide +kernel, by decide +kernel, by decide +kernel⟩
theorem in_X5_become : Cond.instanceMethod yX5_become ∈ gt := gt_2 (i := 72) rfl rfl
theorem se_X5_become : Cond.selects RX5 yX5_become yX5_become ∈ gt := gt_2 (i := 73) rfl rfl
abbrev jX5_becomeDifference : Jt := (yX5_becomeDifference, cX5_becomeDifference, 4, none)
theorem mk_X5_becomeDifference : Mk jX5_becomeDifference 2 := ⟨gt_3 (i := 62) rfl rfl, gt_1 (i := 4) rfl rfl, by decide +kernel, by decide +kernel, by decide +kernel, by decide +kernel⟩
theorem in_X5_becomeDifference : Cond.instanceMethod yX5_becomeDifference ∈ gt := gt_3 (i := 60) rfl rfl
theorem se_X5_becomeDifference : Cond.selects RX5 yX5_becomeDifference yX5_becomeDifference ∈ gt := gt_3 (i := 61) rfl rfl
abbrev jX5_becomeFirstOnes : Jt := (yX5_becomeFirstOnes, cX5_becomeFirstOnes, 3, none)
theorem mk_X5_becomeFirstOnes : Mk jX5_becomeFirstOnes 1 := ⟨gt_2 (i := 45) rfl rfl, gt_1 (i := 4) rfl rfl, by decide +kernel, by decide +kernel, by decide +kernel, by decide +kernel⟩
theorem in_X5_becomeFirstOnes : Cond.instanceMethod yX5_becomeFirstOnes ∈ gt := gt_2 (i := 43) rfl rfl
theorem se_X5_becomeFirstOnes : Cond.selects RX5 yX5_becomeFirstOnes yX5_becomeFirstOnes ∈ gt := gt_2 (i := 44) rfl rfl
abbrev jX5_byteAt : Jt := (yX5_byteAt, cX5_byteAt, 2, (some .int))
theorem mk_X5_byteAt : Mk jX5_byteAt 1 := ⟨gt_2 (i := 130) rfl rfl, gt_1 (i := 4) rfl rfl, by decide +kernel, by decide +kernel, by decide +kernel, by decide +kernel⟩
theorem in_X5_byteAt : Cond.instanceMethod yX5_byteAt ∈ gt := gt_2 (i := 128) rfl rfl
theorem se_X5_byteAt : Cond.selects RX5 yX5_byteAt yX5_byteAt ∈ gt := gt_2 (i := 129) rfl rfl
abbrev jX5_clear : Jt := (yX5_clear, cX5_clear, 1, none)
theorem mk_X5_clear : Mk jX5_clear 0 := ⟨gt_2 (i := 49) rfl rfl, gt_1 (i := 4) rfl rfl, by decide +kernel, by decide +kernel, by decide +kernel, by decide +kernel⟩
theorem in_X5_clear : Cond.instanceMethod yX5_clear ∈ gt := gt_2 (i := 47) rfl rfl
theorem se_X5_clear : Cond.selects RX5 yX5_clear yX5_clear ∈ gt := gt_2 (i := 48) rfl rfl
abbrev jX5_init : Jt := (yX5_init, cX5_init, 1, none)
theorem mk_X5_init : Mk jX5_init 0 := ⟨gt_1 (i := 63) rfl rfl, gt_1 (i := 4) rfl rfl, by decide +kernel, by decide +kernel, by decide +kernel, by decide +kernel⟩
theorem in_X5_init : Cond.instanceMethod yX5_init ∈ gt := gt_1 (i := 62) rfl rfl
abbrev jX5_ones : Jt := (yX5_ones, cX5_ones, 3, (some .int))
theorem mk_X5_ones : Mk jX5_ones 0 := ⟨gt_2 (i := 223) rfl rfl, gt_1 (i := 4) rfl rfl, by decide +kernel, by decide +kernel, by decide +kernel, by decide +kernel⟩
theorem in_X5_ones : Cond.instanceMethod yX5_ones ∈ gt := gt_2 (i := 221) rfl rfl
theorem se_X5_ones : Cond.selects RX5 yX5_ones yX5_ones ∈ gt := gt_2 (i := 222) rfl rfl
abbrev jX5_set : Jt := (yX5_set, cX5_set, 5, none)
theorem mk_X5_set : Mk jX5_set 2 := ⟨gt_2 (i := 56) rfl rfl, gt_1 (i := 4) rfl rfl, by decide +kernel, by decide +kernel, by decide +kernel, by decide +kernel⟩
theorem in_X5_set : Cond.instanceMethod yX5_set ∈ gt := gt_2 (i := 54) rfl rfl
theorem se_X5_set : Cond.selects RX5 yX5_set yX5_set ∈ gt := gt_2 (i := 55) rfl rfl
abbrev jX5_setByte : Jt := (yX5_setByte, cX5_setByte, 4, none)
theorem mk_X5_setByte : Mk jX5_setByte 2 := ⟨gt_2 (i := 134) rfl rfl, gt_1 (i := 4) rfl rfl, by decide +kernel, by decide +kernel, by decide +kernel, by decide +kernel⟩
theorem in_X5_setByte : Cond.instanceMethod yX5_setByte ∈ gt := gt_2 (i := 132) rfl rfl
theorem se_X5_setByte : Cond.selects RX5 yX5_setByte yX5_setByte ∈ gt := gt_2 (i := 133) rfl rfl
abbrev jX6_about : Jt := (yX6_about, cX6_about, 2, (some .int))
theorem mk_X6_about : Mk jX6_about 1 := ⟨gt_3 (i := 93) rfl rfl, gt_1 (i := 1) rfl rfl, by decide +kernel, by decide +kernel, by decide +kernel, by decide +kernel⟩
theorem in_X6_about : Cond.instanceMethod yX6_about ∈ gt := gt_3 (i := 91) rfl rfl
theorem se_X6_about : Cond.selects RX6 yX6_about yX6_about ∈ gt := gt_3 (i := 92) rfl rfl
abbrev jX6_bit : Jt := (yX6_bit, cX6_bit, 3, (some .int))
theorem mk_X6_bit : Mk jX6_bit 2 := ⟨gt_2 (i := 232) rfl rfl, gt_1 (i := 1) rfl rfl, by decide +kernel, by decide +kernel, by decide +kernel, by decide +kernel⟩
theorem in_X6_bit : Cond.instanceMethod yX6_bit ∈ gt := gt_2 (i := 230) rfl rfl
theorem se_X6_bit : Cond.selects RX6 yX6_bit yX6_bit ∈ gt := gt_2 (i := 231) rfl rfl
abbrev jX6_copy : Jt := (yX6_copy, cX6_copy, 3, (some .int))
theorem mk_X6_copy : Mk jX6_copy 2 := ⟨gt_3 (i := 76) rfl rfl, gt_1 (i := 1) rfl rfl, by decide +kernel, by decide +kernel, by decide +kernel, by decide +kernel⟩
theorem in_X6_copy : Cond.instanceMethod yX6_copy ∈ gt := gt_3 (i := 74) rfl rfl
theorem se_X6_copy : Cond.selects RX6 yX6_copy yX6_copy ∈ gt := gt_3 (i := 75) rfl rfl
abbrev jX6_erase : Jt := (yX6_erase, cX6_erase, 2, (some .int))
theorem mk_X6_erase : Mk jX6_erase 1 := ⟨gt_2 (i := 192) rfl rfl, gt_1 (i := 1) rfl rfl, by decide +kernel, by decide +kernel, by decide +kernel, by decide +kernel⟩
theorem in_X6_erase : Cond.instanceMethod yX6_erase ∈ gt := gt_2 (i := 190) rfl rfl
theorem se_X6_erase : Cond.selects RX6 yX6_erase yX6_erase ∈ gt := gt_2 (i := 191) rfl rfl
abbrev jX6_fill : Jt := (yX6_fill, cX6_fill, 6, (some .int))
theorem mk_X6_fill : Mk jX6_fill 2 := ⟨gt_2 (i := 139) rfl rfl, gt_1 (i := 1) rfl rfl, by decide +kernel, by decide +kernel, by decide +kernel, by decide +kernel⟩
theorem in_X6_fill : Cond.instanceMethod yX6_fill ∈ gt := gt_2 (i := 137) rfl rfl
theorem se_X6_fill : Cond.selects RX6 yX6_fill yX6_fill ∈ gt := gt_2 (i := 138) rfl rfl
abbrev jX6_flip : Jt := (yX6_flip, cX6_flip, 3, (some .int))
theorem mk_X6_flip : Mk jX6_flip 2 := ⟨gt_2 (i := 201) rfl rfl, gt_1 (i := 1) rfl rfl, by decide +kernel, by decide +kernel, by decide +kernel, by decide +kernel⟩
theorem in_X6_flip : Cond.instanceMethod yX6_flip ∈ gt := gt_2 (i := 199) rfl rfl
theorem se_X6_flip : Cond.selects RX6 yX6_flip yX6_flip ∈ gt := gt_2 (i := 200) rfl rfl
abbrev jX6_generator : Jt := (yX6_generator, cX6_generator, 2, (some .int))
theorem mk_X6_generator : Mk jX6_generator 1 := ⟨gt_2 (i := 118) rfl rfl, gt_1 (i := 1) rfl rfl, by decide +kernel, by decide +kernel, by decide +kernel, by decide +kernel⟩
theorem in_X6_generator : Cond.instanceMethod yX6_generator ∈ gt := gt_2 (i := 116) rfl rfl
theorem se_X6_generator : Cond.selects RX6 yX6_generator yX6_generator ∈ gt := gt_2 (i := 117) rfl rfl
abbrev jX6_get : Jt := (yX6_get, cX6_get, 2, (some .int))
theorem mk_X6_get : Mk jX6_get 1 := ⟨gt_2 (i := 144) rfl rfl, gt_1 (i := 1) rfl rfl, by decide +kernel, by decide +kernel, by decide +kernel, by decide +kernel⟩
theorem in_X6_get : Cond.instanceMethod yX6_get ∈ gt := gt_2 (i := 142) rfl rfl
theorem se_X6_get : Cond.selects RX6 yX6_get yX6_get ∈ gt := gt_2 (i := 143) rfl rfl
abbrev jX6_hasBit : Jt := (yX6_hasBit, cX6_hasBit, 2, (some .boolean))
theorem mk_X6_hasBit : Mk jX6_hasBit 1 := ⟨gt_2 (i := 205) rfl rfl, gt_1 (i := 1) rfl rfl, by decide +kernel, by decide +kernel, by decide +kernel, by decide +kernel⟩
theorem in_X6_hasBit : Cond.instanceMethod yX6_hasBit ∈ gt := gt_2 (i := 204) rfl rfl
theorem se_X6_hasBit : Cond.selects RX6 yX6_hasBit yX6_hasBit ∈ gt := gt_0 (i := 9) rfl rfl
abbrev jX6_hasByte : Jt := (yX6_hasByte, cX6_hasByte, 2, (some .boolean))
theorem mk_X6_hasByte : Mk jX6_hasByte 1 := ⟨gt_2 (i := 126) rfl rfl, gt_1 (i := 1) rfl rfl, by decide +kernel, by decide +kernel, by decide +kernel, by decide +kernel⟩
theorem in_X6_hasByte : Cond.instanceMethod yX6_hasByte ∈ gt := gt_2 (i := 125) rfl rfl
theorem se_X6_hasByte : Cond.selects RX6 yX6_hasByte yX6_hasByte ∈ gt := gt_0 (i := 5) rfl rfl
abbrev jX6_hasPage : Jt := (yX6_hasPage, cX6_hasPage, 2, (some .boolean))
theorem mk_X6_hasPage : Mk jX6_hasPage 1 := ⟨gt_2 (i := 174) rfl rfl, gt_1 (i := 1) rfl rfl, by decide +kernel, by decide +kernel, by decide +kernel, by decide +kernel⟩
theorem in_X6_hasPage : Cond.instanceMethod yX6_hasPage ∈ gt := gt_2 (i := 173) rfl rfl
theorem se_X6_hasPage : Cond.selects RX6 yX6_hasPage yX6_hasPage ∈ gt := gt_0 (i := 8) rfl rfl
abbrev jX6_init : Jt := (yX6_init, cX6_init, 2, none)
theorem mk_X6_init : Mk jX6_init 0 := ⟨gt_1 (i := 17) rfl rfl, gt_1 (i := 1) rfl rfl, by decide +kernel, by decide +kernel, by decide +kernel, by decide +kernel⟩
theorem in_X6_init : Cond.instanceMethod yX6_init ∈ gt := gt_1 (i := 16) rfl rfl
abbrev jX6_inverse : Jt := (yX6_inverse, cX6_inverse, 2, (some .int))
theorem mk_X6_inverse : Mk jX6_inverse 1 := ⟨gt_2 (i := 91) rfl rfl, gt_1 (i := 1) rfl rfl, by decide +kernel, by decide +kernel, by decide +kernel, by decide +kernel⟩
theorem in_X6_inverse : Cond.instanceMethod yX6_inverse ∈ gt := gt_2 (i := 89) rfl rfl
theorem se_X6_inverse : Cond.selects RX6 yX6_inverse yX6_inverse ∈ gt := gt_2 (i := 90) rfl rfl
abbrev jX6_log : Jt := (yX6_log, cX6_log, 2, (some .int))
theorem mk_X6_log : Mk jX6_log 1 := ⟨gt_2 (i := 109) rfl rfl, gt_1 (i := 1) rfl rfl, by decide +kernel, by decide +kernel, by decide +kernel, by decide +kernel⟩
theorem in_X6_log : Cond.instanceMethod yX6_log ∈ gt := gt_2 (i := 107) rfl rfl
theorem se_X6_log : Cond.selects RX6 yX6_log yX6_log ∈ gt := gt_2 (i := 108) rfl rfl
abbrev jX6_mark : Jt := (yX6_mark, cX6_mark, 4, (some .int))
theorem mk_X6_mark : Mk jX6_mark 3 := ⟨gt_2 (i := 227) rfl rfl, gt_1 (i := 1) rfl rfl, by decide +kernel, by decide +kernel, by decide +kernel, by decide +kernel⟩
theorem in_X6_mark : Cond.instanceMethod yX6_mark ∈ gt := gt_2 (i := 225) rfl rfl
theorem se_X6_mark : Cond.selects RX6 yX6_mark yX6_mark ∈ gt := gt_2 (i := 226) rfl rfl
abbrev jX6_minimal : Jt := (yX6_minimal, cX6_minimal, 2, (some .int))
theorem mk_X6_minimal : Mk jX6_minimal 1 := ⟨gt_2 (i := 113) rfl rfl, gt_1 (i := 1) rfl rfl, by decide +kernel, by decide +kernel, by decide +kernel, by decide +kernel⟩
theorem in_X6_minimal : Cond.instanceMethod yX6_minimal ∈ gt := gt_2 (i := 111) rfl rfl
theorem se_X6_minimal : Cond.selects RX6 yX6_minimal yX6_minimal ∈ gt := gt_2 (i := 112) rfl rfl
abbrev jX6_open : Jt := (yX6_open, cX6_open, 6, (some .int))
theorem mk_X6_open : Mk jX6_open 3 := ⟨gt_1 (i := 218) rfl rfl, gt_1 (i := 1) rfl rfl, by decide +kernel, by decide +kernel, by decide +kernel, by decide +kernel⟩
theorem in_X6_open : Cond.instanceMethod yX6_open ∈ gt := gt_1 (i := 216) rfl rfl
theorem se_X6_open : Cond.selects RX6 yX6_open yX6_open ∈ gt := gt_1 (i := 217) rfl rfl
abbrev jX6_power : Jt := (yX6_power, cX6_power, 2, (some .int))
theorem mk_X6_power : Mk jX6_power 1 := ⟨gt_2 (i := 99) rfl rfl, gt_1 (i := 1) rfl rfl, by decide +kernel, by decide +kernel, by decide +kernel, by decide +kernel⟩
theorem in_X6_power : Cond.instanceMethod yX6_power ∈ gt := gt_2 (i := 97) rfl rfl
theorem se_X6_power : Cond.selects RX6 yX6_power yX6_power ∈ gt := gt_2 (i := 98) rfl rfl
abbrev jX6_put : Jt := (yX6_put, cX6_put, 4, (some .int))
theorem mk_X6_put : Mk jX6_put 2 := ⟨gt_2 (i := 122) rfl rfl, gt_1 (i := 1) rfl rfl, by decide +kernel, by decide +kernel, by decide +kernel, by decide +kernel⟩
theorem in_X6_put : Cond.instanceMethod yX6_put ∈ gt := gt_2 (i := 120) rfl rfl
theorem se_X6_put : Cond.selects RX6 yX6_put yX6_put ∈ gt := gt_2 (i := 121) rfl rfl
abbrev jX6_read : Jt := (yX6_read, cX6_read, 3, (some .int))
theorem mk_X6_read : Mk jX6_read 1 := ⟨gt_2 (i := 236) rfl rfl, gt_1 (i := 1) rfl rfl, by decide +kernel, by decide +kernel, by decide +kernel, by decide +kernel⟩
theorem in_X6_read : Cond.instanceMethod yX6_read ∈ gt := gt_2 (i := 234) rfl rfl
theorem se_X6_read : Cond.selects RX6 yX6_read yX6_read ∈ gt := gt_2 (i := 235) rfl rfl
abbrev jX6_refresh : Jt := (yX6_refresh, cX6_refresh, 5, (some .int))
theorem mk_X6_refresh : Mk jX6_refresh 1 := ⟨gt_3 (i := 84) rfl rfl, gt_1 (i := 1) rfl rfl, by decide +kernel, by decide +kernel, by decide +kernel, by decide +kernel⟩
theorem in_X6_refresh : Cond.instanceMethod yX6_refresh ∈ gt := gt_3 (i := 82) rfl rfl
theorem se_X6_refresh : Cond.selects RX6 yX6_refresh yX6_refresh ∈ gt := gt_3 (i := 83) rfl rfl
abbrev jX6_rewrite : Jt := (yX6_rewrite, cX6_rewrite, 2, (some .int))
theorem mk_X6_rewrite : Mk jX6_rewrite 1 := ⟨gt_3 (i := 80) rfl rfl, gt_1 (i := 1) rfl rfl, by decide +kernel, by decide +kernel, by decide +kernel, by decide +kernel⟩
theorem in_X6_rewrite : Cond.instanceMethod yX6_rewrite ∈ gt := gt_3 (i := 79) rfl rfl
theorem se_X6_rewrite : Cond.selects RX6 yX6_rewrite yX6_rewrite ∈ gt := gt_0 (i := 19) rfl rfl
abbrev jX6_stick : Jt := (yX6_stick, cX6_stick, 4, (some .int))
theorem mk_X6_stick : Mk jX6_stick 3 := ⟨gt_2 (i := 215) rfl rfl, gt_1 (i := 1) rfl rfl, by decide +kernel, by decide +kernel, by decide +kernel, by decide +kernel⟩
theorem in_X6_stick : Cond.instanceMethod yX6_stick ∈ gt := gt_2 (i := 213) rfl rfl
theorem se_X6_stick : Cond.selects RX6 yX6_stick yX6_stick ∈ gt := gt_2 (i := 214) rfl rfl
abbrev jX6_syndrome : Jt := (yX6_syndrome, cX6_syndrome, 3, (some .int))
theorem mk_X6_syndrome : Mk jX6_syndrome 2 := ⟨gt_3 (i := 70) rfl rfl, gt_1 (i := 1) rfl rfl, by decide +kernel, by decide +kernel, by decide +kernel, by decide +kernel⟩
theorem in_X6_syndrome : Cond.instanceMethod yX6_syndrome ∈ gt := gt_3 (i := 68) rfl rfl
theorem se_X6_syndrome : Cond.selects RX6 yX6_syndrome yX6_syndrome ∈ gt := gt_3 (i := 69) rfl rfl
abbrev jX6_tail : Jt := (yX6_tail, cX6_tail, 2, (some .int))
theorem mk_X6_tail : Mk jX6_tail 1 := ⟨gt_2 (i := 148) rfl rfl, gt_1 (i := 1) rfl rfl, by decide +kernel, by decide +kernel, by decide +kernel, by decide +kernel⟩
theorem in_X6_tail : Cond.instanceMethod yX6_tail ∈ gt := gt_2 (i := 146) rfl rfl
theorem se_X6_tail : Cond.selects RX6 yX6_tail yX6_tail ∈ gt := gt_2 (i := 147) rfl rfl
abbrev jX6_times : Jt := (yX6_times, cX6_times, 3, (some .int))
theorem mk_X6_times : Mk jX6_times 2 := ⟨gt_2 (i := 82) rfl rfl, gt_1 (i := 1) rfl rfl, by decide +kernel, by decide +kernel, by decide +kernel, by decide +kernel⟩
theorem in_X6_times : Cond.instanceMethod yX6_times ∈ gt := gt_2 (i := 80) rfl rfl
theorem se_X6_times : Cond.selects RX6 yX6_times yX6_times ∈ gt := gt_2 (i := 81) rfl rfl
abbrev jX6_told : Jt := (yX6_told, cX6_told, 4, (some .int))
theorem mk_X6_told : Mk jX6_told 2 := ⟨gt_3 (i := 88) rfl rfl, gt_1 (i := 1) rfl rfl, by decide +kernel, by decide +kernel, by decide +kernel, by decide +kernel⟩
theorem in_X6_told : Cond.instanceMethod yX6_told ∈ gt := gt_3 (i := 86) rfl rfl
theorem se_X6_told : Cond.selects RX6 yX6_told yX6_told ∈ gt := gt_3 (i := 87) rfl rfl
abbrev jX6_turned : Jt := (yX6_turned, cX6_turned, 4, (some .int))
theorem mk_X6_turned : Mk jX6_turned 1 := ⟨gt_3 (i := 66) rfl rfl, gt_1 (i := 1) rfl rfl, by decide +kernel, by decide +kernel, by decide +kernel, by decide +kernel⟩
theorem in_X6_turned : Cond.instanceMethod yX6_turned ∈ gt := gt_3 (i := 64) rfl rfl
theorem se_X6_turned : Cond.selects RX6 yX6_turned yX6_turned ∈ gt := gt_3 (i := 65) rfl rfl
abbrev jX6_write : Jt := (yX6_write, cX6_write, 2, (some .int))
theorem mk_X6_write : Mk jX6_write 1 := ⟨gt_2 (i := 170) rfl rfl, gt_1 (i := 1) rfl rfl, by decide +kernel, by decide +kernel, by decide +kernel, by decide +kernel⟩
theorem in_X6_write : Cond.instanceMethod yX6_write ∈ gt := gt_2 (i := 168) rfl rfl
theorem se_X6_write : Cond.selects RX6 yX6_write yX6_write ∈ gt := gt_2 (i := 169) rfl rfl
abbrev jX7_about : Jt := (yX7_about, cX7_about, 2, (some .int))
theorem mk_X7_about : Mk jX7_about 1 := ⟨gt_4 (i := 134) rfl rfl, gt_1 (i := 7) rfl rfl, by decide +kernel, by decide +kernel, by decide +kernel, by decide +kernel⟩
theorem in_X7_about : Cond.instanceMethod yX7_about ∈ gt := gt_4 (i := 132) rfl rfl
theorem se_X7_about : Cond.selects RX7 yX7_about yX7_about ∈ gt := gt_4 (i := 133) rfl rfl
abbrev jX7_bit : Jt := (yX7_bit, cX7_bit, 3, (some .int))
theorem mk_X7_bit : Mk jX7_bit 2 := ⟨gt_4 (i := 86) rfl rfl, gt_1 (i := 7) rfl rfl, by decide +kernel, by decide +kernel, by decide +kernel, by decide +kernel⟩
theorem in_X7_bit : Cond.instanceMethod yX7_bit ∈ gt := gt_4 (i := 84) rfl rfl
theorem se_X7_bit : Cond.selects RX7 yX7_bit yX7_bit ∈ gt := gt_4 (i := 85) rfl rfl
abbrev jX7_by : Jt := (yX7_by, cX7_by, 3, (some .int))
theorem mk_X7_by : Mk jX7_by 2 := ⟨gt_3 (i := 220) rfl rfl, gt_1 (i := 7) rfl rfl, by decide +kernel, by decide +kernel, by decide +kernel, by decide +kernel⟩
theorem in_X7_by : Cond.instanceMethod yX7_by ∈ gt := gt_3 (i := 219) rfl rfl
theorem se_X7_by : Cond.selects RX7 yX7_by yX7_by ∈ gt := gt_0 (i := 25) rfl rfl
abbrev jX7_complete : Jt := (yX7_complete, cX7_complete, 4, none)
theorem mk_X7_complete : Mk jX7_complete 0 := ⟨gt_4 (i := 35) rfl rfl, gt_1 (i := 7) rfl rfl, by decide +kernel, by decide +kernel, by decide +kernel, by decide +kernel⟩
theorem in_X7_complete : Cond.instanceMethod yX7_complete ∈ gt := gt_4 (i := 34) rfl rfl
theorem se_X7_complete : Cond.selects RX7 yX7_complete yX7_complete ∈ gt := gt_0 (i := 28) rfl rfl
abbrev jX7_copy : Jt := (yX7_copy, cX7_copy, 3, (some .int))
theorem mk_X7_copy : Mk jX7_copy 2 := ⟨gt_4 (i := 118) rfl rfl, gt_1 (i := 7) rfl rfl, by decide +kernel, by decide +kernel, by decide +kernel, by decide +kernel⟩
theorem in_X7_copy : Cond.instanceMethod yX7_copy ∈ gt := gt_4 (i := 116) rfl rfl
theorem se_X7_copy : Cond.selects RX7 yX7_copy yX7_copy ∈ gt := gt_4 (i := 117) rfl rfl
abbrev jX7_countMarks : Jt := (yX7_countMarks, cX7_countMarks, 4, (some .int))
theorem mk_X7_countMarks : Mk jX7_countMarks 1 := ⟨gt_4 (i := 82) rfl rfl, gt_1 (i := 7) rfl rfl, by decide +kernel, by decide +kernel, by decide +kernel, by decide +kernel⟩
theorem in_X7_countMarks : Cond.instanceMethod yX7_countMarks ∈ gt := gt_4 (i := 81) rfl rfl
theorem se_X7_countMarks : Cond.selects RX7 yX7_countMarks yX7_countMarks ∈ gt := gt_0 (i := 34) rfl rfl
abbrev jX7_countStuck : Jt := (yX7_countStuck, cX7_countStuck, 4, (some .int))
theorem mk_X7_countStuck : Mk jX7_countStuck 1 := ⟨gt_4 (i := 74) rfl rfl, gt_1 (i := 7) rfl rfl, by decide +kernel, by decide +kernel, by decide +kernel, by decide +kernel⟩
theorem in_X7_countStuck : Cond.instanceMethod yX7_countStuck ∈ gt := gt_4 (i := 73) rfl rfl
theorem se_X7_countStuck : Cond.selects RX7 yX7_countStuck yX7_countStuck ∈ gt := gt_0 (i := 33) rfl rfl
abbrev jX7_countZeros : Jt := (yX7_countZeros, cX7_countZeros, 4, (some .int))
theorem mk_X7_countZeros : Mk jX7_countZeros 1 := ⟨gt_4 (i := 130) rfl rfl, gt_1 (i := 7) rfl rfl, by decide +kernel, by decide +kernel, by decide +kernel, by decide +kernel⟩
theorem in_X7_countZeros : Cond.instanceMethod yX7_countZeros ∈ gt := gt_4 (i := 129) rfl rfl
theorem se_X7_countZeros : Cond.selects RX7 yX7_countZeros yX7_countZeros ∈ gt := gt_0 (i := 39) rfl rfl
abbrev jX7_erase : Jt := (yX7_erase, cX7_erase, 2, (some .int))
theorem mk_X7_erase : Mk jX7_erase 1 := ⟨gt_4 (i := 54) rfl rfl, gt_1 (i := 7) rfl rfl, by decide +kernel, by decide +kernel, by decide +kernel, by decide +kernel⟩
theorem in_X7_erase : Cond.instanceMethod yX7_erase ∈ gt := gt_4 (i := 52) rfl rfl
theorem se_X7_erase : Cond.selects RX7 yX7_erase yX7_erase ∈ gt := gt_4 (i := 53) rfl rfl
abbrev jX7_exponent : Jt := (yX7_exponent, cX7_exponent, 3, (some .int))
theorem mk_X7_exponent : Mk jX7_exponent 1 := ⟨gt_3 (i := 212) rfl rfl, gt_1 (i := 7) rfl rfl, by decide +kernel, by decide +kernel, by decide +kernel, by decide +kernel⟩
theorem in_X7_exponent : Cond.instanceMethod yX7_exponent ∈ gt := gt_3 (i := 211) rfl rfl
theorem se_X7_exponent : Cond.selects RX7 yX7_exponent yX7_exponent ∈ gt := gt_0 (i := 23) rfl rfl
abbrev jX7_fill : Jt := (yX7_fill, cX7_fill, 6, (some .int))
theorem mk_X7_fill : Mk jX7_fill 2 := ⟨gt_4 (i := 22) rfl rfl, gt_1 (i := 7) rfl rfl, by decide +kernel, by decide +kernel, by decide +kernel, by decide +kernel⟩
theorem in_X7_fill : Cond.instanceMethod yX7_fill ∈ gt := gt_4 (i := 20) rfl rfl
theorem se_X7_fill : Cond.selects RX7 yX7_fill yX7_fill ∈ gt := gt_4 (i := 21) rfl rfl
abbrev jX7_flip : Jt := (yX7_flip, cX7_flip, 4, (some .int))
theorem mk_X7_flip : Mk jX7_flip 2 := ⟨gt_4 (i := 62) rfl rfl, gt_1 (i := 7) rfl rfl, by decide +kernel, by decide +kernel, by decide +kernel, by decide +kernel⟩
theorem in_X7_flip : Cond.instanceMethod yX7_flip ∈ gt := gt_4 (i := 60) rfl rfl
theorem se_X7_flip : Cond.selects RX7 yX7_flip yX7_flip ∈ gt := gt_4 (i := 61) rfl rfl
abbrev jX7_generator : Jt := (yX7_generator, cX7_generator, 2, (some .int))
theorem mk_X7_generator : Mk jX7_generator 1 := ⟨gt_4 (i := 14) rfl rfl, gt_1 (i := 7) rfl rfl, by decide +kernel, by decide +kernel, by decide +kernel, by decide +kernel⟩
theorem in_X7_generator : Cond.instanceMethod yX7_generator ∈ gt := gt_4 (i := 12) rfl rfl
theorem se_X7_generator : Cond.selects RX7 yX7_generator yX7_generator ∈ gt := gt_4 (i := 13) rfl rfl
abbrev jX7_generatorAt : Jt := (yX7_generatorAt, cX7_generatorAt, 5, (some .int))
theorem mk_X7_generatorAt : Mk jX7_generatorAt 2 := ⟨gt_3 (i := 208) rfl rfl, gt_1 (i := 7) rfl rfl, by decide +kernel, by decide +kernel, by decide +kernel, by decide +kernel⟩
theorem in_X7_generatorAt : Cond.instanceMethod yX7_generatorAt ∈ gt := gt_3 (i := 207) rfl rfl
theorem se_X7_generatorAt : Cond.selects RX7 yX7_generatorAt yX7_generatorAt ∈ gt := gt_0 (i := 22) rfl rfl
abbrev jX7_get : Jt := (yX7_get, cX7_get, 2, (some .int))
theorem mk_X7_get : Mk jX7_get 1 := ⟨gt_4 (i := 27) rfl rfl, gt_1 (i := 7) rfl rfl, by decide +kernel, by decide +kernel, by decide +kernel, by decide +kernel⟩
theorem in_X7_get : Cond.instanceMethod yX7_get ∈ gt := gt_4 (i := 25) rfl rfl
theorem se_X7_get : Cond.selects RX7 yX7_get yX7_get ∈ gt := gt_4 (i := 26) rfl rfl
abbrev jX7_init : Jt := (yX7_init, cX7_init, 1, none)
theorem mk_X7_init : Mk jX7_init 0 := ⟨gt_3 (i := 98) rfl rfl, gt_1 (i := 7) rfl rfl, by decide +kernel, by decide +kernel, by decide +kernel, by decide +kernel⟩
theorem in_X7_init : Cond.instanceMethod yX7_init ∈ gt := gt_3 (i := 97) rfl rfl
abbrev jX7_inverse : Jt := (yX7_inverse, cX7_inverse, 2, (some .int))
theorem mk_X7_inverse : Mk jX7_inverse 1 := ⟨gt_3 (i := 232) rfl rfl, gt_1 (i := 7) rfl rfl, by decide +kernel, by decide +kernel, by decide +kernel, by decide +kernel⟩
theorem in_X7_inverse : Cond.instanceMethod yX7_inverse ∈ gt := gt_3 (i := 230) rfl rfl
theorem se_X7_inverse : Cond.selects RX7 yX7_inverse yX7_inverse ∈ gt := gt_3 (i := 231) rfl rfl
abbrev jX7_isBit : Jt := (yX7_isBit, cX7_isBit, 3, (some .boolean))
theorem mk_X7_isBit : Mk jX7_isBit 2 := ⟨gt_4 (i := 66) rfl rfl, gt_1 (i := 7) rfl rfl, by decide +kernel, by decide +kernel, by decide +kernel, by decide +kernel⟩
theorem in_X7_isBit : Cond.instanceMethod yX7_isBit ∈ gt := gt_4 (i := 65) rfl rfl
theorem se_X7_isBit : Cond.selects RX7 yX7_isBit yX7_isBit ∈ gt := gt_0 (i := 32) rfl rfl
abbrev jX7_isMended : Jt := (yX7_isMended, cX7_isMended, 6, (some .boolean))
theorem mk_X7_isMended : Mk jX7_isMended 0 := ⟨gt_4 (i := 98) rfl rfl, gt_1 (i := 7) rfl rfl, by decide +kernel, by decide +kernel, by decide +kernel, by decide +kernel⟩
theorem in_X7_isMended : Cond.instanceMethod yX7_isMended ∈ gt := gt_4 (i := 97) rfl rfl
theorem se_X7_isMended : Cond.selects RX7 yX7_isMended yX7_isMended ∈ gt := gt_0 (i := 36) rfl rfl
abbrev jX7_isNumber : Jt := (yX7_isNumber, cX7_isNumber, 2, (some .boolean))
theorem mk_X7_isNumber : Mk jX7_isNumber 1 := ⟨gt_3 (i := 228) rfl rfl, gt_1 (i := 7) rfl rfl, by decide +kernel, by decide +kernel, by decide +kernel, by decide +kernel⟩
theorem in_X7_isNumber : Cond.instanceMethod yX7_isNumber ∈ gt := gt_3 (i := 227) rfl rfl
theorem se_X7_isNumber : Cond.selects RX7 yX7_isNumber yX7_isNumber ∈ gt := gt_0 (i := 26) rfl rfl
abbrev jX7_isPage : Jt := (yX7_isPage, cX7_isPage, 1, (some .boolean))
theorem mk_X7_isPage : Mk jX7_isPage 1 := ⟨gt_4 (i := 42) rfl rfl, gt_1 (i := 7) rfl rfl, by decide +kernel, by decide +kernel, by decide +kernel, by decide +kernel⟩
theorem st_X7_isPage : Cond.static yX7_isPage ∈ gt := gt_4 (i := 41) rfl rfl
abbrev jX7_isRight : Jt := (yX7_isRight, cX7_isRight, 5, (some .boolean))
theorem mk_X7_isRight : Mk jX7_isRight 0 := ⟨gt_4 (i := 102) rfl rfl, gt_1 (i := 7) rfl rfl, by decide +kernel, by decide +kernel, by decide +kernel, by decide +kernel⟩
theorem in_X7_isRight : Cond.instanceMethod yX7_isRight ∈ gt := gt_4 (i := 101) rfl rfl
theorem se_X7_isRight : Cond.selects RX7 yX7_isRight yX7_isRight ∈ gt := gt_0 (i := 37) rfl rfl
abbrev jX7_log : Jt := (yX7_log, cX7_log, 2, (some .int))
theorem mk_X7_log : Mk jX7_log 1 := ⟨gt_4 (i := 6) rfl rfl, gt_1 (i := 7) rfl rfl, by decide +kernel, by decide +kernel, by decide +kernel, by decide +kernel⟩
theorem in_X7_log : Cond.instanceMethod yX7_log ∈ gt := gt_4 (i := 4) rfl rfl
theorem se_X7_log : Cond.selects RX7 yX7_log yX7_log ∈ gt := gt_4 (i := 5) rfl rfl
abbrev jX7_makeField : Jt := (yX7_makeField, cX7_makeField, 4, none)
theorem mk_X7_makeField : Mk jX7_makeField 1 := ⟨gt_3 (i := 194) rfl rfl, gt_1 (i := 7) rfl rfl, by decide +kernel, by decide +kernel, by decide +kernel, by decide +kernel⟩
theorem in_X7_makeField : Cond.instanceMethod yX7_makeField ∈ gt := gt_3 (i := 193) rfl rfl
theorem se_X7_makeField : Cond.selects RX7 yX7_makeField yX7_makeField ∈ gt := gt_0 (i := 20) rfl rfl
abbrev jX7_makeGenerator : Jt := (yX7_makeGenerator, cX7_makeGenerator, 8, (some .int))
theorem mk_X7_makeGenerator : Mk jX7_makeGenerator 1 := ⟨gt_3 (i := 204) rfl rfl, gt_1 (i := 7) rfl rfl, by decide +kernel, by decide +kernel, by decide +kernel, by decide +kernel⟩
theorem in_X7_makeGenerator : Cond.instanceMethod yX7_makeGenerator ∈ gt := gt_3 (i := 203) rfl rfl
theorem se_X7_makeGenerator : Cond.selects RX7 yX7_makeGenerator yX7_makeGenerator ∈ gt := gt_0 (i := 21) rfl rfl
abbrev jX7_mark : Jt := (yX7_mark, cX7_mark, 4, (some .int))
theorem mk_X7_mark : Mk jX7_mark 3 := ⟨gt_4 (i := 78) rfl rfl, gt_1 (i := 7) rfl rfl, by decide +kernel, by decide +kernel, by decide +kernel, by decide +kernel⟩
theorem in_X7_mark : Cond.instanceMethod yX7_mark ∈ gt := gt_4 (i := 76) rfl rfl
theorem se_X7_mark : Cond.selects RX7 yX7_mark yX7_mark ∈ gt := gt_4 (i := 77) rfl rfl
abbrev jX7_mend : Jt := (yX7_mend, cX7_mend, 9, (some .int))
theorem mk_X7_mend : Mk jX7_mend 1 := ⟨gt_4 (i := 94) rfl rfl, gt_1 (i := 7) rfl rfl, by decide +kernel, by decide +kernel, by decide +kernel, by decide +kernel⟩
theorem in_X7_mend : Cond.instanceMethod yX7_mend ∈ gt := gt_4 (i := 93) rfl rfl
theorem se_X7_mend : Cond.selects RX7 yX7_mend yX7_mend ∈ gt := gt_0 (i := 35) rfl rfl
abbrev jX7_minimal : Jt := (yX7_minimal, cX7_minimal, 2, (some .int))
theorem mk_X7_minimal : Mk jX7_minimal 1 := ⟨gt_4 (i := 10) rfl rfl, gt_1 (i := 7) rfl rfl, by decide +kernel, by decide +kernel, by decide +kernel, by decide +kernel⟩
theorem in_X7_minimal : Cond.instanceMethod yX7_minimal ∈ gt := gt_4 (i := 8) rfl rfl
theorem se_X7_minimal : Cond.selects RX7 yX7_minimal yX7_minimal ∈ gt := gt_4 (i := 9) rfl rfl
abbrev jX7_minimalOf : Jt := (yX7_minimalOf, cX7_minimalOf, 7, (some .int))
theorem mk_X7_minimalOf : Mk jX7_minimalOf 1 := ⟨gt_3 (i := 216) rfl rfl, gt_1 (i := 7) rfl rfl, by decide +kernel, by decide +kernel, by decide +kernel, by decide +kernel⟩
theorem in_X7_minimalOf : Cond.instanceMethod yX7_minimalOf ∈ gt := gt_3 (i := 215) rfl rfl
theorem se_X7_minimalOf : Cond.selects RX7 yX7_minimalOf yX7_minimalOf ∈ gt := gt_0 (i := 24) rfl rfl
abbrev jX7_open : Jt := (yX7_open, cX7_open, 7, (some .int))
theorem mk_X7_open : Mk jX7_open 3 := ⟨gt_3 (i := 187) rfl rfl, gt_1 (i := 7) rfl rfl, by decide +kernel, by decide +kernel, by decide +kernel, by decide +kernel⟩
theorem in_X7_open : Cond.instanceMethod yX7_open ∈ gt := gt_3 (i := 185) rfl rfl
theorem se_X7_open : Cond.selects RX7 yX7_open yX7_open ∈ gt := gt_3 (i := 186) rfl rfl
abbrev jX7_over : Jt := (yX7_over, cX7_over, 2, (some .int))
theorem mk_X7_over : Mk jX7_over 1 := ⟨gt_3 (i := 236) rfl rfl, gt_1 (i := 7) rfl rfl, by decide +kernel, by decide +kernel, by decide +kernel, by decide +kernel⟩
theorem in_X7_over : Cond.instanceMethod yX7_over ∈ gt := gt_3 (i := 235) rfl rfl
theorem se_X7_over : Cond.selects RX7 yX7_over yX7_over ∈ gt := gt_0 (i := 27) rfl rfl
abbrev jX7_polynomial : Jt := (yX7_polynomial, cX7_polynomial, 1, (some .int))
theorem mk_X7_polynomial : Mk jX7_polynomial 1 := ⟨gt_3 (i := 200) rfl rfl, gt_1 (i := 7) rfl rfl, by decide +kernel, by decide +kernel, by decide +kernel, by decide +kernel⟩
theorem st_X7_polynomial : Cond.static yX7_polynomial ∈ gt := gt_3 (i := 199) rfl rfl
abbrev jX7_power : Jt := (yX7_power, cX7_power, 2, (some .int))
theorem mk_X7_power : Mk jX7_power 1 := ⟨gt_4 (i := 0) rfl rfl, gt_1 (i := 7) rfl rfl, by decide +kernel, by decide +kernel, by decide +kernel, by decide +kernel⟩
theorem in_X7_power : Cond.instanceMethod yX7_power ∈ gt := gt_3 (i := 238) rfl rfl
theorem se_X7_power : Cond.selects RX7 yX7_power yX7_power ∈ gt := gt_3 (i := 239) rfl rfl
abbrev jX7_product : Jt := (yX7_product, cX7_product, 5, (some .int))
theorem mk_X7_product : Mk jX7_product 3 := ⟨gt_3 (i := 197) rfl rfl, gt_1 (i := 7) rfl rfl, by decide +kernel, by decide +kernel, by decide +kernel, by decide +kernel⟩
theorem st_X7_product : Cond.static yX7_product ∈ gt := gt_3 (i := 196) rfl rfl
abbrev jX7_program : Jt := (yX7_program, cX7_program, 5, (some .int))
theorem mk_X7_program : Mk jX7_program 1 := ⟨gt_4 (i := 46) rfl rfl, gt_1 (i := 7) rfl rfl, by decide +kernel, by decide +kernel, by decide +kernel, by decide +kernel⟩
theorem in_X7_program : Cond.instanceMethod yX7_program ∈ gt := gt_4 (i := 45) rfl rfl
theorem se_X7_program : Cond.selects RX7 yX7_program yX7_program ∈ gt := gt_0 (i := 29) rfl rfl
abbrev jX7_put : Jt := (yX7_put, cX7_put, 4, (some .int))
theorem mk_X7_put : Mk jX7_put 2 := ⟨gt_4 (i := 18) rfl rfl, gt_1 (i := 7) rfl rfl, by decide +kernel, by decide +kernel, by decide +kernel, by decide +kernel⟩
theorem in_X7_put : Cond.instanceMethod yX7_put ∈ gt := gt_4 (i := 16) rfl rfl
theorem se_X7_put : Cond.selects RX7 yX7_put yX7_put ∈ gt := gt_4 (i := 17) rfl rfl
abbrev jX7_read : Jt := (yX7_read, cX7_read, 4, (some .int))
theorem mk_X7_read : Mk jX7_read 1 := ⟨gt_4 (i := 90) rfl rfl, gt_1 (i := 7) rfl rfl, by decide +kernel, by decide +kernel, by decide +kernel, by decide +kernel⟩
theorem in_X7_read : Cond.instanceMethod yX7_read ∈ gt := gt_4 (i := 88) rfl rfl
theorem se_X7_read : Cond.selects RX7 yX7_read yX7_read ∈ gt := gt_4 (i := 89) rfl rfl
abbrev jX7_refresh : Jt := (yX7_refresh, cX7_refresh, 6, (some .int))
theorem mk_X7_refresh : Mk jX7_refresh 1 := ⟨gt_4 (i := 122) rfl rfl, gt_1 (i := 7) rfl rfl, by decide +kernel, by decide +kernel, by decide +kernel, by decide +kernel⟩
theorem in_X7_refresh : Cond.instanceMethod yX7_refresh ∈ gt := gt_4 (i := 120) rfl rfl
theorem se_X7_refresh : Cond.selects RX7 yX7_refresh yX7_refresh ∈ gt := gt_4 (i := 121) rfl rfl
abbrev jX7_set : Jt := (yX7_set, cX7_set, 3, none)
theorem mk_X7_set : Mk jX7_set 2 := ⟨gt_4 (i := 50) rfl rfl, gt_1 (i := 7) rfl rfl, by decide +kernel, by decide +kernel, by decide +kernel, by decide +kernel⟩
theorem in_X7_set : Cond.instanceMethod yX7_set ∈ gt := gt_4 (i := 49) rfl rfl
theorem se_X7_set : Cond.selects RX7 yX7_set yX7_set ∈ gt := gt_0 (i := 30) rfl rfl
abbrev jX7_solves : Jt := (yX7_solves, cX7_solves, 8, (some .boolean))
theorem mk_X7_solves : Mk jX7_solves 1 := ⟨gt_4 (i := 106) rfl rfl, gt_1 (i := 7) rfl rfl, by decide +kernel, by decide +kernel, by decide +kernel, by decide +kernel⟩
theorem in_X7_solves : Cond.instanceMethod yX7_solves ∈ gt := gt_4 (i := 105) rfl rfl
theorem se_X7_solves : Cond.selects RX7 yX7_solves yX7_solves ∈ gt := gt_0 (i := 38) rfl rfl
abbrev jX7_stick : Jt := (yX7_stick, cX7_stick, 5, (some .int))
theorem mk_X7_stick : Mk jX7_stick 3 := ⟨gt_4 (i := 70) rfl rfl, gt_1 (i := 7) rfl rfl, by decide +kernel, by decide +kernel, by decide +kernel, by decide +kernel⟩
theorem in_X7_stick : Cond.instanceMethod yX7_stick ∈ gt := gt_4 (i := 68) rfl rfl
theorem se_X7_stick : Cond.selects RX7 yX7_stick yX7_stick ∈ gt := gt_4 (i := 69) rfl rfl
abbrev jX7_syndrome : Jt := (yX7_syndrome, cX7_syndrome, 4, (some .int))
theorem mk_X7_syndrome : Mk jX7_syndrome 2 := ⟨gt_4 (i := 114) rfl rfl, gt_1 (i := 7) rfl rfl, by decide +kernel, by decide +kernel, by decide +kernel, by decide +kernel⟩
theorem in_X7_syndrome : Cond.instanceMethod yX7_syndrome ∈ gt := gt_4 (i := 112) rfl rfl
theorem se_X7_syndrome : Cond.selects RX7 yX7_syndrome yX7_syndrome ∈ gt := gt_4 (i := 113) rfl rfl
abbrev jX7_tail : Jt := (yX7_tail, cX7_tail, 2, (some .int))
theorem mk_X7_tail : Mk jX7_tail 1 := ⟨gt_4 (i := 31) rfl rfl, gt_1 (i := 7) rfl rfl, by decide +kernel, by decide +kernel, by decide +kernel, by decide +kernel⟩
theorem in_X7_tail : Cond.instanceMethod yX7_tail ∈ gt := gt_4 (i := 29) rfl rfl
theorem se_X7_tail : Cond.selects RX7 yX7_tail yX7_tail ∈ gt := gt_4 (i := 30) rfl rfl
abbrev jX7_times : Jt := (yX7_times, cX7_times, 3, (some .int))
theorem mk_X7_times : Mk jX7_times 2 := ⟨gt_3 (i := 224) rfl rfl, gt_1 (i := 7) rfl rfl, by decide +kernel, by decide +kernel, by decide +kernel, by decide +kernel⟩
theorem in_X7_times : Cond.instanceMethod yX7_times ∈ gt := gt_3 (i := 222) rfl rfl
theorem se_X7_times : Cond.selects RX7 yX7_times yX7_times ∈ gt := gt_3 (i := 223) rfl rfl
abbrev jX7_told : Jt := (yX7_told, cX7_told, 6, (some .int))
theorem mk_X7_told : Mk jX7_told 2 := ⟨gt_4 (i := 126) rfl rfl, gt_1 (i := 7) rfl rfl, by decide +kernel, by decide +kernel, by decide +kernel, by decide +kernel⟩
theorem in_X7_told : Cond.instanceMethod yX7_told ∈ gt := gt_4 (i := 124) rfl rfl
theorem se_X7_told : Cond.selects RX7 yX7_told yX7_told ∈ gt := gt_4 (i := 125) rfl rfl
abbrev jX7_turned : Jt := (yX7_turned, cX7_turned, 2, (some .int))
theorem mk_X7_turned : Mk jX7_turned 1 := ⟨gt_4 (i := 110) rfl rfl, gt_1 (i := 7) rfl rfl, by decide +kernel, by decide +kernel, by decide +kernel, by decide +kernel⟩
theorem in_X7_turned : Cond.instanceMethod yX7_turned ∈ gt := gt_4 (i := 108) rfl rfl
theorem se_X7_turned : Cond.selects RX7 yX7_turned yX7_turned ∈ gt := gt_4 (i := 109) rfl rfl
abbrev jX7_wipe : Jt := (yX7_wipe, cX7_wipe, 3, none)
theorem mk_X7_wipe : Mk jX7_wipe 1 := ⟨gt_4 (i := 58) rfl rfl, gt_1 (i := 7) rfl rfl, by decide +kernel, by decide +kernel, by decide +kernel, by decide +kernel⟩
theorem in_X7_wipe : Cond.instanceMethod yX7_wipe ∈ gt := gt_4 (i := 57) rfl rfl
theorem se_X7_wipe : Cond.selects RX7 yX7_wipe yX7_wipe ∈ gt := gt_0 (i := 31) rfl rfl
abbrev jX7_within : Jt := (yX7_within, cX7_within, 3, (some .boolean))
theorem mk_X7_within : Mk jX7_within 3 := ⟨gt_3 (i := 190) rfl rfl, gt_1 (i := 7) rfl rfl, by decide +kernel, by decide +kernel, by decide +kernel, by decide +kernel⟩
theorem st_X7_within : Cond.static yX7_within ∈ gt := gt_3 (i := 189) rfl rfl
abbrev jX7_write : Jt := (yX7_write, cX7_write, 2, (some .int))
theorem mk_X7_write : Mk jX7_write 1 := ⟨gt_4 (i := 39) rfl rfl, gt_1 (i := 7) rfl rfl, by decide +kernel, by decide +kernel, by decide +kernel, by decide +kernel⟩
theorem in_X7_write : Cond.instanceMethod yX7_write ∈ gt := gt_4 (i := 37) rfl rfl
theorem se_X7_write : Cond.selects RX7 yX7_write yX7_write ∈ gt := gt_4 (i := 38) rfl rfl
end
section
/-! THE CLAIM OUT OF ONE WALK OF THE LAW'S BODY. Your part is whole_start (and what it stands on); all else here is the same for every law, but numbers. -/
def R_law : String := "PageMenderLaw"
def lw_P (b : Addr) (xs : List Int32) (args : Array Value) (s : State) : Prop := args = #[.ref b] ∧ s.IntsAt b xs ∧ xs.length ≤ 2048 ∧ (Jvm.Cond.and given_1 narrow_1).before args s = true
def lw_Q (_ : Array Value) (s : State) (o : Outcome) (t : State) : Prop := o = .returned (some (.int 1)) ∧ Framed s o t [] 600000 7302250
def lw_Z (below : List Frame) (a : Array Value) (s : State) : State → Prop := fun t => ∃ o, t.status = .running ∧ Ended t below o ∧ lw_Q a s o t
/-- the law's own end, with 1 on the stack, nothing written that was there before, its room as the claim has it -/
theorem lw_ret {p : Program} {l : Launch} {e : Env} {s : State} {m : MethodId} {below : List Frame} {meth : Method} {c : Code} {b : Nat} (hx : p.tables.exec = Jvm.exec) (hb : c.code = code) (hr : meth.sig.returnType = ret) (hlocks : meth.locks = false) {pc : Nat} {H : Heap} {ls : Array Slot} (hdg : decode code pc = .ok (.ireturn, 1)) : W p l e room_1 s m #[Value.ref b] below meth c H [] 600000 7302250 (lw_Z below #[Value.ref b] s) (F0 m pc ls [.int 1]) := by
  intro T hT X
  obtain ⟨fs, hret, hrun, hended, hW, hframe⟩ := X.leave (v := some (.int 1)) (hlocks := hlocks) (fun h => by rw [hr] at h; cases h)
  have hmeth' : T.vm.method? m = some meth := X.method'
  refine ⟨T.setFrames fs, ?_, .returned (some (.int 1)), hrun, hended, rfl, ⟨_, rfl⟩, hW, hframe⟩
  jvm_step X.here [X.here.top, hx, hb, hdg, hmeth', hr, ret, narrow_b1]
  (try refine ⟨rfl, ?_⟩); (try refine ⟨rfl, ?_⟩)
  first | (intro acts; rw [hret _ acts rfl rfl rfl]) | rw [hret _ _ rfl rfl rfl]
  exact Steps.refl _
/-- what holds at the law's entry: the machine, the code, the tables' words (any of lw_tbl by 'hts w (by decide +kernel)'), the script of L ints xs at the cell b, what the Statement gives of the start (any of its parts by flat_of_before) -/
def lw_At (p : Program) (s : State) (m : MethodId) (meth : Method) (c : Code) (b L : Nat) (xs : Nat → Int32) : Prop :=
  p.tables.exec = Jvm.exec ∧ c.code = code ∧ meth.sig.returnType = ret ∧ c.maxLocals = 4 ∧ s.vm.findClass R_law = some m.cls ∧ (∀ w ∈ lw_tbl, w.before #[Value.ref b] s = true) ∧ va_X b L xs s s.heap ∧ b < s.heap.size ∧ meth.locks = false ∧ (Jvm.Cond.and given_1 narrow_1).before #[Value.ref b] s = true
/-- what is left, over places alone: the law's code, from its first instruction, over every script of at most 2048 ints, comes to its end with 1, and within the room -/
def LawGoal : Prop := ∀ X : Ev, ev_L X ≤ 2048 → ∃ M' : Hp, G X 10 jL_law [] 0 [some (.retAddr 0), none, none, none] [] [] (some (.int 1)) M' ∧ M'.length ≤ 600000 ∧ sl M' ≤ 7302250
theorem gt_tbl {w : Cond} (h : w ∈ gt) : w ∈ lw_tbl := (List.mem_filter.mp h).1
theorem arr_of {s : State} {args : Array Value} {ty : FieldType} (h : (Cond.arrayClass ty).before args s = true) (hty : ∀ C, ty ≠ .object C) : ∃ c, ArrOfT s c ty ∧ va_RA s c ty := by
  obtain ⟨c, k, comp, h1, h2, h3⟩ := Cond.arrayClass_spec h
  refine ⟨c, fun n z => ⟨fun k h => (by cases h), k, h2, comp, h3⟩, ?_⟩
  cases ty with
  | object C => exact absurd rfl (hty C)
  | _ => exact h1
theorem frame_of {s t : State} {o : Outcome} {L : List Loc} {k n k' n' : Nat} (h : FrameEnd s o t L k n) (hL : ∀ q ∈ L, s.heap.size ≤ q.base) (hk : k ≤ k') (hn : n ≤ n') : Framed s o t [] k' n' :=
  ⟨h.1, h.2.1, State.sameButNew.weaken h.2.2 (fun y hy hlt => absurd hlt (Nat.not_lt.mpr (hL y hy))) hk hn⟩
set_option maxHeartbeats 4000000 in
theorem start_of (hG : LawGoal) {p : Program} {e : Env} {s : State} {m : MethodId} {below : List Frame} {meth : Method} {c : Code} (l : Launch) {b L : Nat} {xs : Nat → Int32} (hL : L ≤ 2048) (C0 : lw_At p s m meth c b L xs) : W p l e room_1 s m #[Value.ref b] below meth c s.heap [] 0 0 (lw_Z below #[Value.ref b] s) (entryFrame m ([Value.ref b] : List Value).toArray 4) := by
  obtain ⟨hx, hb, hr, hml, hown, hts, hX, hbl, hlocks, hgv⟩ := id C0
  have hg : ∀ w ∈ gt, w.before #[Value.ref b] s = true := fun w hw => hts w (gt_tbl hw)
  have hnA : ∀ a : Nat, a < s.heap.size → ¬ (fun q : Nat => s.heap.size ≤ q) a := fun a h => Nat.not_le.mpr h
  obtain ⟨c0, iS0, hKn0⟩ := u_known (C := RX0) (T := TX0) (N := 12) (n := 12) hg uX0 (hg _ ins_0)
  obtain ⟨c1, iS1, hKn1⟩ := u_known (C := RX2) (T := TX2) (N := 5) (n := 5) hg uX2 (hg _ ins_2)
  obtain ⟨c2, iS2, hKn2⟩ := u_known (C := RX3) (T := TX3) (N := 9) (n := 9) hg uX3 (hg _ ins_3)
  obtain ⟨c3, iS3, hKn3⟩ := u_known (C := RX4) (T := TX4) (N := 4) (n := 4) hg uX4 (hg _ ins_4)
  obtain ⟨c4, iS4, hKn4⟩ := u_known (C := RX5) (T := TX5) (N := 1) (n := 1) hg uX5 (hg _ ins_5)
  obtain ⟨c5, iS5, hKn5⟩ := u_known (C := RX6) (T := TX6) (N := 10) (n := 10) hg uX6 (hg _ ins_6)
  obtain ⟨c6, iS6, hKn6⟩ := u_known (C := RX7) (T := TX7) (N := 27) (n := 27) hg uX7 (hg _ ins_7)
  obtain ⟨dC, dI, hKc⟩ : ∃ (dC : Nat → ClassId) (dI : Nat → Nat → Nat), ∀ (k : Nat) (q : vw_C), cls_[k]? = some q → u_Kn s q.1 q.2.1 q.2.2 (dC k) (dI k) := by
    refine ⟨fun k => if k = 0 then c0 else if k = 1 then c1 else if k = 2 then c2 else if k = 3 then c3 else if k = 4 then c4 else if k = 5 then c5 else c6, fun k => if k = 0 then iS0 else if k = 1 then iS1 else if k = 2 then iS2 else if k = 3 then iS3 else if k = 4 then iS4 else if k = 5 then iS5 else iS6, ?_⟩
    intro k q hq
    match k, hq with
    | 0, hq => cases hq; exact hKn0
    | 1, hq => cases hq; exact hKn1
    | 2, hq => cases hq; exact hKn2
    | 3, hq => cases hq; exact hKn3
    | 4, hq => cases hq; exact hKn4
    | 5, hq => cases hq; exact hKn5
    | 6, hq => cases hq; exact hKn6
    | k + 7, hq => simp [cls_] at hq
  obtain ⟨a0, hA0⟩ := arr_of (hg _ aw_i) (fun C h => by cases h)
  obtain ⟨a1, hA1⟩ := arr_of (hg _ aw_l) (fun C h => by cases h)
  obtain ⟨a2, hA2⟩ := arr_of (hg _ aw_z) (fun C h => by cases h)
  have hao : va_AO "PageMender$Page" s := va_AO.of (hts (.arrayOver (.object "PageMender$Page")) (List.mem_append_right _ (List.mem_append_left _ (List.mem_of_getElem? (i := 155) rfl))))
  obtain ⟨comp, a3, k3, g1, g2, g3, g4, g5⟩ := Cond.arrayOver_spec hao
  have hA3 : ArrOfT s a3 (.object "PageMender$Page") ∧ va_RA s a3 (.object "PageMender$Page") := ⟨fun n z => ⟨fun k h => (by cases h), k3, g3, comp, g4⟩, k3, comp, g3, g4, g1, g5⟩
  have hnl : ∀ w ∈ nls, va_Nw w s := by
    intro w hw
    simp only [nls, List.mem_cons, List.not_mem_nil, or_false] at hw
    rcases hw with rfl | rfl | rfl | rfl | rfl | rfl
    · exact va_Nw.of rfl (hts _ (List.mem_append_right _ (List.mem_append_left _ (List.mem_of_getElem? (i := 23) rfl))))
    · exact va_Nw.of rfl (hts _ (List.mem_append_right _ (List.mem_append_left _ (List.mem_of_getElem? (i := 157) rfl))))
    · exact va_Nw.of rfl (hts _ (List.mem_append_right _ (List.mem_append_left _ (List.mem_of_getElem? (i := 183) rfl))))
    · exact va_Nw.of rfl (hts _ (List.mem_append_right _ (List.mem_append_left _ (List.mem_of_getElem? (i := 61) rfl))))
    · exact va_Nw.of rfl (hts _ (List.mem_append_right _ (List.mem_append_left _ (List.mem_of_getElem? (i := 124) rfl))))
    · exact va_Nw.of rfl (hts _ (List.mem_append_right _ (List.mem_append_left _ (List.mem_of_getElem? (i := 162) rfl))))
  have hfl := flat_of_before _ hgv
  obtain ⟨pol, hpe, hpT⟩ := va_Tof (args := #[Value.ref b]) (s := s) (tm := .static "PageMender$Field" "POLYNOMIALS" "[I") (ty := .int) (N := 11) (f := fun j => .int (pols j)) (A := fun q => s.heap.size ≤ q) (by decide) (hfl _ (by decide +kernel)) (va_eqt (z := 11) (hfl _ (by decide +kernel))) (fun j hj => by
    match j, hj with
    | 0, _ => exact va_eqt (t := .elem (.static "PageMender$Field" "POLYNOMIALS" "[I") (.int 0)) (z := 11) (hfl _ (by decide +kernel))
    | 1, _ => exact va_eqt (t := .elem (.static "PageMender$Field" "POLYNOMIALS" "[I") (.int 1)) (z := 19) (hfl _ (by decide +kernel))
    | 2, _ => exact va_eqt (t := .elem (.static "PageMender$Field" "POLYNOMIALS" "[I") (.int 2)) (z := 37) (hfl _ (by decide +kernel))
    | 3, _ => exact va_eqt (t := .elem (.static "PageMender$Field" "POLYNOMIALS" "[I") (.int 3)) (z := 67) (hfl _ (by decide +kernel))
    | 4, _ => exact va_eqt (t := .elem (.static "PageMender$Field" "POLYNOMIALS" "[I") (.int 4)) (z := 137) (hfl _ (by decide +kernel))
    | 5, _ => exact va_eqt (t := .elem (.static "PageMender$Field" "POLYNOMIALS" "[I") (.int 5)) (z := 285) (hfl _ (by decide +kernel))
    | 6, _ => exact va_eqt (t := .elem (.static "PageMender$Field" "POLYNOMIALS" "[I") (.int 6)) (z := 529) (hfl _ (by decide +kernel))
    | 7, _ => exact va_eqt (t := .elem (.static "PageMender$Field" "POLYNOMIALS" "[I") (.int 7)) (z := 1033) (hfl _ (by decide +kernel))
    | 8, _ => exact va_eqt (t := .elem (.static "PageMender$Field" "POLYNOMIALS" "[I") (.int 8)) (z := 2053) (hfl _ (by decide +kernel))
    | 9, _ => exact va_eqt (t := .elem (.static "PageMender$Field" "POLYNOMIALS" "[I") (.int 9)) (z := 4179) (hfl _ (by decide +kernel))
    | 10, _ => exact va_eqt (t := .elem (.static "PageMender$Field" "POLYNOMIALS" "[I") (.int 10)) (z := 8219) (hfl _ (by decide +kernel))
    | j + 11, h => exact absurd h (by omega)) hnA
  have hpZ := va_Zof (C := "PageMender$Field") (n := "POLYNOMIALS") (d := "[I") (v := .ref pol) (A := fun q => s.heap.size ≤ q) (hts (.laysStatic "PageMender$Field" "POLYNOMIALS" "[I") (List.mem_append_right _ (List.mem_append_right _ (List.mem_append_left _ (List.mem_of_getElem? (i := 8) rfl))))) (hg _ ini_2) hpe hnA
  obtain ⟨scr, x1, x2, x3, x4, x5⟩ := hX
  have hsT : va_T .int b L (fun j => .int (xs j)) (fun q => s.heap.size ≤ q) s s.heap := ⟨scr, x1, x2, x3, by omega, by rw [x4] <;> rfl, x5, hnA b hbl⟩
  let X : Ev := (l, (dC, dI), (fun t => if t = 0 then a0 else if t = 1 then a1 else if t = 2 then a2 else a3), s.heap.size, b, pol, L, xs)
  obtain ⟨M', hGX, hm1, hm2⟩ := hG X hL
  have hK : va_K (ev_D X) cls_ (tys_ X) s := ⟨hKc, fun k q hk => by
    match k, hk with
    | 0, hk => cases hk; exact hA0
    | 1, hk => cases hk; exact hA1
    | 2, hk => cases hk; exact hA2
    | 3, hk => cases hk; exact hA3
    | k + 4, hk => simp at hk⟩
  have hl := lv_entry ([.ref b]) (n := 4) (Nat.le_of_ble_eq_true rfl)
  rw [lg_entry_eq]
  have h := hGX.2 (Le.rf []) p e room_1 s m #[Value.ref b] below meth c s.heap [] _ ⟨hx, hb, hml, hr, hlocks, fun h => absurd h (by decide), hown, hg, by decide, by decide, hK, ⟨hsT, hpT, hpZ, hao, hnl⟩, rfl⟩ ⟨by show M'.length - 0 ≤ 600000; omega, by show sl M' - 0 ≤ 7302250; omega⟩ ⟨fun k q h => by simp [ws_] at h, va_S.rf, hl⟩
  intro T hT Y
  obtain ⟨t, s1, o, q1, q2, q3, LL, q4, q5⟩ := h T hT Y
  refine ⟨t, s1, o, q1, q2, q3.1.1, frame_of q4 (fun q hq => q5 q hq) (by simpa using hm1) (by show sl M' - 0 ≤ 7302250; omega)⟩
end
