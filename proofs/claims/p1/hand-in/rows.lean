section
-- ===== PART A: goes FIRST, ahead of the names: the tables' words, and 'selects' of the private methods out of them =====
/-- a private method of a class that the tables say can be made, by its rows of tables_1 -/
def lw_okq (q : MethodName × Nat) : Prop := (q.1.cls ≠ "java/lang/invoke/MethodHandle" ∧ q.1.cls ≠ "java/lang/invoke/VarHandle") ∧ Cond.instantiable q.1.cls q.2 ∈ tables_1 ∧ Cond.privateMethod q.1 ∈ tables_1 ∧ Cond.instanceMethod q.1 ∈ tables_1
theorem lw_p0 : lw_okq (⟨"PotentialBench", "isFunction", "(I)Z"⟩, 9) := ⟨⟨by decide +kernel, by decide +kernel⟩, List.mem_of_getElem? (i := 16) (by decide +kernel), List.mem_of_getElem? (i := 335) (by decide +kernel), List.mem_of_getElem? (i := 336) (by decide +kernel)⟩
theorem lw_p1 : lw_okq (⟨"PotentialBench", "firstWrong", "()I"⟩, 9) := ⟨⟨by decide +kernel, by decide +kernel⟩, List.mem_of_getElem? (i := 16) (by decide +kernel), List.mem_of_getElem? (i := 347) (by decide +kernel), List.mem_of_getElem? (i := 348) (by decide +kernel)⟩
theorem lw_p2 : lw_okq (⟨"PotentialBench$Reader", "isRight", "(II)Z"⟩, 5) := ⟨⟨by decide +kernel, by decide +kernel⟩, List.mem_of_getElem? (i := 179) (by decide +kernel), List.mem_of_getElem? (i := 351) (by decide +kernel), List.mem_of_getElem? (i := 352) (by decide +kernel)⟩
theorem lw_p3 : lw_okq (⟨"PotentialBench$Reader", "expression", "(II)I"⟩, 5) := ⟨⟨by decide +kernel, by decide +kernel⟩, List.mem_of_getElem? (i := 179) (by decide +kernel), List.mem_of_getElem? (i := 355) (by decide +kernel), List.mem_of_getElem? (i := 356) (by decide +kernel)⟩
theorem lw_p4 : lw_okq (⟨"PotentialBench$Reader", "number", "(II)I"⟩, 5) := ⟨⟨by decide +kernel, by decide +kernel⟩, List.mem_of_getElem? (i := 179) (by decide +kernel), List.mem_of_getElem? (i := 359) (by decide +kernel), List.mem_of_getElem? (i := 360) (by decide +kernel)⟩
theorem lw_p5 : lw_okq (⟨"PotentialBench$Body", "begin", "(II)I"⟩, 9) := ⟨⟨by decide +kernel, by decide +kernel⟩, List.mem_of_getElem? (i := 128) (by decide +kernel), List.mem_of_getElem? (i := 363) (by decide +kernel), List.mem_of_getElem? (i := 364) (by decide +kernel)⟩
theorem lw_p6 : lw_okq (⟨"PotentialBench$Reader", "variable", "(I)V"⟩, 5) := ⟨⟨by decide +kernel, by decide +kernel⟩, List.mem_of_getElem? (i := 179) (by decide +kernel), List.mem_of_getElem? (i := 367) (by decide +kernel), List.mem_of_getElem? (i := 368) (by decide +kernel)⟩
theorem lw_p7 : lw_okq (⟨"PotentialBench$Reader", "parts", "(IIZ)V"⟩, 5) := ⟨⟨by decide +kernel, by decide +kernel⟩, List.mem_of_getElem? (i := 179) (by decide +kernel), List.mem_of_getElem? (i := 371) (by decide +kernel), List.mem_of_getElem? (i := 372) (by decide +kernel)⟩
theorem lw_p8 : lw_okq (⟨"PotentialBench$Reader", "call", "(I)V"⟩, 5) := ⟨⟨by decide +kernel, by decide +kernel⟩, List.mem_of_getElem? (i := 179) (by decide +kernel), List.mem_of_getElem? (i := 375) (by decide +kernel), List.mem_of_getElem? (i := 376) (by decide +kernel)⟩
theorem lw_p9 : lw_okq (⟨"PotentialBench$Runner", "start", "(IIII)V"⟩, 12) := ⟨⟨by decide +kernel, by decide +kernel⟩, List.mem_of_getElem? (i := 202) (by decide +kernel), List.mem_of_getElem? (i := 393) (by decide +kernel), List.mem_of_getElem? (i := 394) (by decide +kernel)⟩
theorem lw_p10 : lw_okq (⟨"PotentialBench$Runner", "open", "(I)V"⟩, 12) := ⟨⟨by decide +kernel, by decide +kernel⟩, List.mem_of_getElem? (i := 202) (by decide +kernel), List.mem_of_getElem? (i := 397) (by decide +kernel), List.mem_of_getElem? (i := 398) (by decide +kernel)⟩
theorem lw_p11 : lw_okq (⟨"PotentialBench$Runner", "finish", "()Z"⟩, 12) := ⟨⟨by decide +kernel, by decide +kernel⟩, List.mem_of_getElem? (i := 202) (by decide +kernel), List.mem_of_getElem? (i := 401) (by decide +kernel), List.mem_of_getElem? (i := 402) (by decide +kernel)⟩
theorem lw_p12 : lw_okq (⟨"PotentialBench$Runner", "reachLength", "()Z"⟩, 12) := ⟨⟨by decide +kernel, by decide +kernel⟩, List.mem_of_getElem? (i := 202) (by decide +kernel), List.mem_of_getElem? (i := 405) (by decide +kernel), List.mem_of_getElem? (i := 406) (by decide +kernel)⟩
theorem lw_p13 : lw_okq (⟨"PotentialBench$Body", "kind", "(I)I"⟩, 9) := ⟨⟨by decide +kernel, by decide +kernel⟩, List.mem_of_getElem? (i := 128) (by decide +kernel), List.mem_of_getElem? (i := 409) (by decide +kernel), List.mem_of_getElem? (i := 410) (by decide +kernel)⟩
theorem lw_p14 : lw_okq (⟨"PotentialBench$Body", "operand", "(I)I"⟩, 9) := ⟨⟨by decide +kernel, by decide +kernel⟩, List.mem_of_getElem? (i := 128) (by decide +kernel), List.mem_of_getElem? (i := 413) (by decide +kernel), List.mem_of_getElem? (i := 414) (by decide +kernel)⟩
theorem lw_p15 : lw_okq (⟨"PotentialBench$Runner", "slot", "(I)I"⟩, 12) := ⟨⟨by decide +kernel, by decide +kernel⟩, List.mem_of_getElem? (i := 202) (by decide +kernel), List.mem_of_getElem? (i := 417) (by decide +kernel), List.mem_of_getElem? (i := 418) (by decide +kernel)⟩
def lw_privs_1 : List (MethodName × Nat) := [(⟨"PotentialBench", "isFunction", "(I)Z"⟩, 9), (⟨"PotentialBench", "firstWrong", "()I"⟩, 9), (⟨"PotentialBench$Reader", "isRight", "(II)Z"⟩, 5), (⟨"PotentialBench$Reader", "expression", "(II)I"⟩, 5), (⟨"PotentialBench$Reader", "number", "(II)I"⟩, 5), (⟨"PotentialBench$Body", "begin", "(II)I"⟩, 9), (⟨"PotentialBench$Reader", "variable", "(I)V"⟩, 5), (⟨"PotentialBench$Reader", "parts", "(IIZ)V"⟩, 5), (⟨"PotentialBench$Reader", "call", "(I)V"⟩, 5), (⟨"PotentialBench$Runner", "start", "(IIII)V"⟩, 12), (⟨"PotentialBench$Runner", "open", "(I)V"⟩, 12), (⟨"PotentialBench$Runner", "finish", "()Z"⟩, 12), (⟨"PotentialBench$Runner", "reachLength", "()Z"⟩, 12), (⟨"PotentialBench$Body", "kind", "(I)I"⟩, 9), (⟨"PotentialBench$Body", "operand", "(I)I"⟩, 9), (⟨"PotentialBench$Runner", "slot", "(I)I"⟩, 12)]
theorem lw_r1 : ∀ q ∈ lw_privs_1, lw_okq q := List.forall_mem_cons.mpr ⟨lw_p0, List.forall_mem_cons.mpr ⟨lw_p1, List.forall_mem_cons.mpr ⟨lw_p2, List.forall_mem_cons.mpr ⟨lw_p3, List.forall_mem_cons.mpr ⟨lw_p4, List.forall_mem_cons.mpr ⟨lw_p5, List.forall_mem_cons.mpr ⟨lw_p6, List.forall_mem_cons.mpr ⟨lw_p7, List.forall_mem_cons.mpr ⟨lw_p8, List.forall_mem_cons.mpr ⟨lw_p9, List.forall_mem_cons.mpr ⟨lw_p10, List.forall_mem_cons.mpr ⟨lw_p11, List.forall_mem_cons.mpr ⟨lw_p12, List.forall_mem_cons.mpr ⟨lw_p13, List.forall_mem_cons.mpr ⟨lw_p14, List.forall_mem_cons.mpr ⟨lw_p15, fun _ h => absurd h List.not_mem_nil⟩⟩⟩⟩⟩⟩⟩⟩⟩⟩⟩⟩⟩⟩⟩⟩
theorem lw_p16 : lw_okq (⟨"PotentialBench$Runner", "hand", "(LPotentialBench$Body;)V"⟩, 12) := ⟨⟨by decide +kernel, by decide +kernel⟩, List.mem_of_getElem? (i := 202) (by decide +kernel), List.mem_of_getElem? (i := 421) (by decide +kernel), List.mem_of_getElem? (i := 422) (by decide +kernel)⟩
theorem lw_p17 : lw_okq (⟨"PotentialBench$Body", "handed", "(II)I"⟩, 9) := ⟨⟨by decide +kernel, by decide +kernel⟩, List.mem_of_getElem? (i := 128) (by decide +kernel), List.mem_of_getElem? (i := 425) (by decide +kernel), List.mem_of_getElem? (i := 426) (by decide +kernel)⟩
theorem lw_p18 : lw_okq (⟨"PotentialBench$Runner", "goInside", "(LPotentialBench$Body;I)V"⟩, 12) := ⟨⟨by decide +kernel, by decide +kernel⟩, List.mem_of_getElem? (i := 202) (by decide +kernel), List.mem_of_getElem? (i := 429) (by decide +kernel), List.mem_of_getElem? (i := 430) (by decide +kernel)⟩
theorem lw_p19 : lw_okq (⟨"PotentialBench$Runner", "passOn", "()Z"⟩, 12) := ⟨⟨by decide +kernel, by decide +kernel⟩, List.mem_of_getElem? (i := 202) (by decide +kernel), List.mem_of_getElem? (i := 433) (by decide +kernel), List.mem_of_getElem? (i := 434) (by decide +kernel)⟩
theorem lw_p20 : lw_okq (⟨"PotentialBench$Needs", "gather", "(I)Z"⟩, 12) := ⟨⟨by decide +kernel, by decide +kernel⟩, List.mem_of_getElem? (i := 248) (by decide +kernel), List.mem_of_getElem? (i := 453) (by decide +kernel), List.mem_of_getElem? (i := 454) (by decide +kernel)⟩
theorem lw_p21 : lw_okq (⟨"PotentialBench$Needs", "goThrough", "(I)V"⟩, 12) := ⟨⟨by decide +kernel, by decide +kernel⟩, List.mem_of_getElem? (i := 248) (by decide +kernel), List.mem_of_getElem? (i := 457) (by decide +kernel), List.mem_of_getElem? (i := 458) (by decide +kernel)⟩
theorem lw_p22 : lw_okq (⟨"PotentialBench$Needs", "bringsOf", "(I)I"⟩, 12) := ⟨⟨by decide +kernel, by decide +kernel⟩, List.mem_of_getElem? (i := 248) (by decide +kernel), List.mem_of_getElem? (i := 464) (by decide +kernel), List.mem_of_getElem? (i := 465) (by decide +kernel)⟩
theorem lw_p23 : lw_okq (⟨"PotentialBench$Needs", "paysOf", "(I)I"⟩, 12) := ⟨⟨by decide +kernel, by decide +kernel⟩, List.mem_of_getElem? (i := 248) (by decide +kernel), List.mem_of_getElem? (i := 468) (by decide +kernel), List.mem_of_getElem? (i := 469) (by decide +kernel)⟩
theorem lw_p24 : lw_okq (⟨"PotentialBench$Needs", "leavesOf", "(I)I"⟩, 12) := ⟨⟨by decide +kernel, by decide +kernel⟩, List.mem_of_getElem? (i := 248) (by decide +kernel), List.mem_of_getElem? (i := 472) (by decide +kernel), List.mem_of_getElem? (i := 473) (by decide +kernel)⟩
theorem lw_p25 : lw_okq (⟨"PotentialBench$Needs", "clear", "(I)V"⟩, 12) := ⟨⟨by decide +kernel, by decide +kernel⟩, List.mem_of_getElem? (i := 248) (by decide +kernel), List.mem_of_getElem? (i := 476) (by decide +kernel), List.mem_of_getElem? (i := 477) (by decide +kernel)⟩
theorem lw_p26 : lw_okq (⟨"PotentialBench$Needs", "sum", "(II)[I"⟩, 12) := ⟨⟨by decide +kernel, by decide +kernel⟩, List.mem_of_getElem? (i := 248) (by decide +kernel), List.mem_of_getElem? (i := 480) (by decide +kernel), List.mem_of_getElem? (i := 481) (by decide +kernel)⟩
theorem lw_p27 : lw_okq (⟨"PotentialBench$Needs", "add", "(III)V"⟩, 12) := ⟨⟨by decide +kernel, by decide +kernel⟩, List.mem_of_getElem? (i := 248) (by decide +kernel), List.mem_of_getElem? (i := 484) (by decide +kernel), List.mem_of_getElem? (i := 485) (by decide +kernel)⟩
theorem lw_p28 : lw_okq (⟨"PotentialBench$Needs", "addBranches", "(III)V"⟩, 12) := ⟨⟨by decide +kernel, by decide +kernel⟩, List.mem_of_getElem? (i := 248) (by decide +kernel), List.mem_of_getElem? (i := 493) (by decide +kernel), List.mem_of_getElem? (i := 494) (by decide +kernel)⟩
theorem lw_p29 : lw_okq (⟨"PotentialBench$Body", "others", "(I)I"⟩, 9) := ⟨⟨by decide +kernel, by decide +kernel⟩, List.mem_of_getElem? (i := 128) (by decide +kernel), List.mem_of_getElem? (i := 497) (by decide +kernel), List.mem_of_getElem? (i := 498) (by decide +kernel)⟩
theorem lw_p30 : lw_okq (⟨"PotentialBench$Needs", "handDown", "(I)V"⟩, 12) := ⟨⟨by decide +kernel, by decide +kernel⟩, List.mem_of_getElem? (i := 248) (by decide +kernel), List.mem_of_getElem? (i := 508) (by decide +kernel), List.mem_of_getElem? (i := 509) (by decide +kernel)⟩
theorem lw_p31 : lw_okq (⟨"PotentialBench$Needs", "atLeast", "(I[I)[I"⟩, 12) := ⟨⟨by decide +kernel, by decide +kernel⟩, List.mem_of_getElem? (i := 248) (by decide +kernel), List.mem_of_getElem? (i := 518) (by decide +kernel), List.mem_of_getElem? (i := 519) (by decide +kernel)⟩
def lw_privs_2 : List (MethodName × Nat) := [(⟨"PotentialBench$Runner", "hand", "(LPotentialBench$Body;)V"⟩, 12), (⟨"PotentialBench$Body", "handed", "(II)I"⟩, 9), (⟨"PotentialBench$Runner", "goInside", "(LPotentialBench$Body;I)V"⟩, 12), (⟨"PotentialBench$Runner", "passOn", "()Z"⟩, 12), (⟨"PotentialBench$Needs", "gather", "(I)Z"⟩, 12), (⟨"PotentialBench$Needs", "goThrough", "(I)V"⟩, 12), (⟨"PotentialBench$Needs", "bringsOf", "(I)I"⟩, 12), (⟨"PotentialBench$Needs", "paysOf", "(I)I"⟩, 12), (⟨"PotentialBench$Needs", "leavesOf", "(I)I"⟩, 12), (⟨"PotentialBench$Needs", "clear", "(I)V"⟩, 12), (⟨"PotentialBench$Needs", "sum", "(II)[I"⟩, 12), (⟨"PotentialBench$Needs", "add", "(III)V"⟩, 12), (⟨"PotentialBench$Needs", "addBranches", "(III)V"⟩, 12), (⟨"PotentialBench$Body", "others", "(I)I"⟩, 9), (⟨"PotentialBench$Needs", "handDown", "(I)V"⟩, 12), (⟨"PotentialBench$Needs", "atLeast", "(I[I)[I"⟩, 12)]
theorem lw_r2 : ∀ q ∈ lw_privs_2, lw_okq q := List.forall_mem_cons.mpr ⟨lw_p16, List.forall_mem_cons.mpr ⟨lw_p17, List.forall_mem_cons.mpr ⟨lw_p18, List.forall_mem_cons.mpr ⟨lw_p19, List.forall_mem_cons.mpr ⟨lw_p20, List.forall_mem_cons.mpr ⟨lw_p21, List.forall_mem_cons.mpr ⟨lw_p22, List.forall_mem_cons.mpr ⟨lw_p23, List.forall_mem_cons.mpr ⟨lw_p24, List.forall_mem_cons.mpr ⟨lw_p25, List.forall_mem_cons.mpr ⟨lw_p26, List.forall_mem_cons.mpr ⟨lw_p27, List.forall_mem_cons.mpr ⟨lw_p28, List.forall_mem_cons.mpr ⟨lw_p29, List.forall_mem_cons.mpr ⟨lw_p30, List.forall_mem_cons.mpr ⟨lw_p31, fun _ h => absurd h List.not_mem_nil⟩⟩⟩⟩⟩⟩⟩⟩⟩⟩⟩⟩⟩⟩⟩⟩
theorem lw_p32 : lw_okq (⟨"PotentialBench$Needs", "coverOthers", "(III)V"⟩, 12) := ⟨⟨by decide +kernel, by decide +kernel⟩, List.mem_of_getElem? (i := 248) (by decide +kernel), List.mem_of_getElem? (i := 522) (by decide +kernel), List.mem_of_getElem? (i := 523) (by decide +kernel)⟩
theorem lw_p33 : lw_okq (⟨"PotentialBench$Needs", "needOthers", "(III)V"⟩, 12) := ⟨⟨by decide +kernel, by decide +kernel⟩, List.mem_of_getElem? (i := 248) (by decide +kernel), List.mem_of_getElem? (i := 526) (by decide +kernel), List.mem_of_getElem? (i := 527) (by decide +kernel)⟩
theorem lw_p34 : lw_okq (⟨"PotentialBench$Needs", "addCall", "(III)V"⟩, 12) := ⟨⟨by decide +kernel, by decide +kernel⟩, List.mem_of_getElem? (i := 248) (by decide +kernel), List.mem_of_getElem? (i := 530) (by decide +kernel), List.mem_of_getElem? (i := 531) (by decide +kernel)⟩
theorem lw_p35 : lw_okq (⟨"PotentialBench$Needs", "addThen", "(III)V"⟩, 12) := ⟨⟨by decide +kernel, by decide +kernel⟩, List.mem_of_getElem? (i := 248) (by decide +kernel), List.mem_of_getElem? (i := 535) (by decide +kernel), List.mem_of_getElem? (i := 536) (by decide +kernel)⟩
theorem lw_p36 : lw_okq (⟨"PotentialBench$Needs", "addOnePart", "(III)V"⟩, 12) := ⟨⟨by decide +kernel, by decide +kernel⟩, List.mem_of_getElem? (i := 248) (by decide +kernel), List.mem_of_getElem? (i := 539) (by decide +kernel), List.mem_of_getElem? (i := 540) (by decide +kernel)⟩
theorem lw_p37 : lw_okq (⟨"PotentialBench$Solver", "load", "(LPotentialBench$Needs;II)V"⟩, 14) := ⟨⟨by decide +kernel, by decide +kernel⟩, List.mem_of_getElem? (i := 26) (by decide +kernel), List.mem_of_getElem? (i := 543) (by decide +kernel), List.mem_of_getElem? (i := 544) (by decide +kernel)⟩
theorem lw_p38 : lw_okq (⟨"PotentialBench$Whole", "trim", "(I)V"⟩, 3) := ⟨⟨by decide +kernel, by decide +kernel⟩, List.mem_of_getElem? (i := 33) (by decide +kernel), List.mem_of_getElem? (i := 555) (by decide +kernel), List.mem_of_getElem? (i := 556) (by decide +kernel)⟩
theorem lw_p39 : lw_okq (⟨"PotentialBench$Solver", "cell", "(II)LPotentialBench$Whole;"⟩, 14) := ⟨⟨by decide +kernel, by decide +kernel⟩, List.mem_of_getElem? (i := 26) (by decide +kernel), List.mem_of_getElem? (i := 559) (by decide +kernel), List.mem_of_getElem? (i := 560) (by decide +kernel)⟩
theorem lw_p40 : lw_okq (⟨"PotentialBench$Solver", "loadRow", "([I)V"⟩, 14) := ⟨⟨by decide +kernel, by decide +kernel⟩, List.mem_of_getElem? (i := 26) (by decide +kernel), List.mem_of_getElem? (i := 566) (by decide +kernel), List.mem_of_getElem? (i := 567) (by decide +kernel)⟩
theorem lw_p41 : lw_okq (⟨"PotentialBench$Solver", "solve", "()Z"⟩, 14) := ⟨⟨by decide +kernel, by decide +kernel⟩, List.mem_of_getElem? (i := 26) (by decide +kernel), List.mem_of_getElem? (i := 570) (by decide +kernel), List.mem_of_getElem? (i := 571) (by decide +kernel)⟩
theorem lw_p42 : lw_okq (⟨"PotentialBench$Solver", "lowestRow", "()I"⟩, 14) := ⟨⟨by decide +kernel, by decide +kernel⟩, List.mem_of_getElem? (i := 26) (by decide +kernel), List.mem_of_getElem? (i := 575) (by decide +kernel), List.mem_of_getElem? (i := 576) (by decide +kernel)⟩
theorem lw_p43 : lw_okq (⟨"PotentialBench$Whole", "compareAmount", "(LPotentialBench$Whole;)I"⟩, 3) := ⟨⟨by decide +kernel, by decide +kernel⟩, List.mem_of_getElem? (i := 33) (by decide +kernel), List.mem_of_getElem? (i := 590) (by decide +kernel), List.mem_of_getElem? (i := 591) (by decide +kernel)⟩
theorem lw_p44 : lw_okq (⟨"PotentialBench$Solver", "entering", "(I)I"⟩, 14) := ⟨⟨by decide +kernel, by decide +kernel⟩, List.mem_of_getElem? (i := 26) (by decide +kernel), List.mem_of_getElem? (i := 594) (by decide +kernel), List.mem_of_getElem? (i := 595) (by decide +kernel)⟩
theorem lw_p45 : lw_okq (⟨"PotentialBench$Solver", "isDearer", "(III)Z"⟩, 14) := ⟨⟨by decide +kernel, by decide +kernel⟩, List.mem_of_getElem? (i := 26) (by decide +kernel), List.mem_of_getElem? (i := 598) (by decide +kernel), List.mem_of_getElem? (i := 599) (by decide +kernel)⟩
theorem lw_p46 : lw_okq (⟨"PotentialBench$Solver", "compareIn", "(IIII)I"⟩, 14) := ⟨⟨by decide +kernel, by decide +kernel⟩, List.mem_of_getElem? (i := 26) (by decide +kernel), List.mem_of_getElem? (i := 602) (by decide +kernel), List.mem_of_getElem? (i := 603) (by decide +kernel)⟩
theorem lw_p47 : lw_okq (⟨"PotentialBench$Whole", "room", "(I)V"⟩, 3) := ⟨⟨by decide +kernel, by decide +kernel⟩, List.mem_of_getElem? (i := 33) (by decide +kernel), List.mem_of_getElem? (i := 619) (by decide +kernel), List.mem_of_getElem? (i := 620) (by decide +kernel)⟩
def lw_privs_3 : List (MethodName × Nat) := [(⟨"PotentialBench$Needs", "coverOthers", "(III)V"⟩, 12), (⟨"PotentialBench$Needs", "needOthers", "(III)V"⟩, 12), (⟨"PotentialBench$Needs", "addCall", "(III)V"⟩, 12), (⟨"PotentialBench$Needs", "addThen", "(III)V"⟩, 12), (⟨"PotentialBench$Needs", "addOnePart", "(III)V"⟩, 12), (⟨"PotentialBench$Solver", "load", "(LPotentialBench$Needs;II)V"⟩, 14), (⟨"PotentialBench$Whole", "trim", "(I)V"⟩, 3), (⟨"PotentialBench$Solver", "cell", "(II)LPotentialBench$Whole;"⟩, 14), (⟨"PotentialBench$Solver", "loadRow", "([I)V"⟩, 14), (⟨"PotentialBench$Solver", "solve", "()Z"⟩, 14), (⟨"PotentialBench$Solver", "lowestRow", "()I"⟩, 14), (⟨"PotentialBench$Whole", "compareAmount", "(LPotentialBench$Whole;)I"⟩, 3), (⟨"PotentialBench$Solver", "entering", "(I)I"⟩, 14), (⟨"PotentialBench$Solver", "isDearer", "(III)Z"⟩, 14), (⟨"PotentialBench$Solver", "compareIn", "(IIII)I"⟩, 14), (⟨"PotentialBench$Whole", "room", "(I)V"⟩, 3)]
theorem lw_r3 : ∀ q ∈ lw_privs_3, lw_okq q := List.forall_mem_cons.mpr ⟨lw_p32, List.forall_mem_cons.mpr ⟨lw_p33, List.forall_mem_cons.mpr ⟨lw_p34, List.forall_mem_cons.mpr ⟨lw_p35, List.forall_mem_cons.mpr ⟨lw_p36, List.forall_mem_cons.mpr ⟨lw_p37, List.forall_mem_cons.mpr ⟨lw_p38, List.forall_mem_cons.mpr ⟨lw_p39, List.forall_mem_cons.mpr ⟨lw_p40, List.forall_mem_cons.mpr ⟨lw_p41, List.forall_mem_cons.mpr ⟨lw_p42, List.forall_mem_cons.mpr ⟨lw_p43, List.forall_mem_cons.mpr ⟨lw_p44, List.forall_mem_cons.mpr ⟨lw_p45, List.forall_mem_cons.mpr ⟨lw_p46, List.forall_mem_cons.mpr ⟨lw_p47, fun _ h => absurd h List.not_mem_nil⟩⟩⟩⟩⟩⟩⟩⟩⟩⟩⟩⟩⟩⟩⟩⟩
theorem lw_p48 : lw_okq (⟨"PotentialBench$Solver", "exchange", "(II)V"⟩, 14) := ⟨⟨by decide +kernel, by decide +kernel⟩, List.mem_of_getElem? (i := 26) (by decide +kernel), List.mem_of_getElem? (i := 637) (by decide +kernel), List.mem_of_getElem? (i := 638) (by decide +kernel)⟩
theorem lw_p49 : lw_okq (⟨"PotentialBench$Solver", "put", "(LPotentialBench$Whole;LPotentialBench$Whole;LPotentialBench$Whole;)V"⟩, 14) := ⟨⟨by decide +kernel, by decide +kernel⟩, List.mem_of_getElem? (i := 26) (by decide +kernel), List.mem_of_getElem? (i := 646) (by decide +kernel), List.mem_of_getElem? (i := 647) (by decide +kernel)⟩
theorem lw_p50 : lw_okq (⟨"PotentialBench$Whole", "addAmount", "(LPotentialBench$Whole;)V"⟩, 3) := ⟨⟨by decide +kernel, by decide +kernel⟩, List.mem_of_getElem? (i := 33) (by decide +kernel), List.mem_of_getElem? (i := 659) (by decide +kernel), List.mem_of_getElem? (i := 660) (by decide +kernel)⟩
theorem lw_p51 : lw_okq (⟨"PotentialBench$Whole", "digit", "(I)I"⟩, 3) := ⟨⟨by decide +kernel, by decide +kernel⟩, List.mem_of_getElem? (i := 33) (by decide +kernel), List.mem_of_getElem? (i := 663) (by decide +kernel), List.mem_of_getElem? (i := 664) (by decide +kernel)⟩
theorem lw_p52 : lw_okq (⟨"PotentialBench$Whole", "differ", "(LPotentialBench$Whole;LPotentialBench$Whole;)V"⟩, 3) := ⟨⟨by decide +kernel, by decide +kernel⟩, List.mem_of_getElem? (i := 33) (by decide +kernel), List.mem_of_getElem? (i := 667) (by decide +kernel), List.mem_of_getElem? (i := 668) (by decide +kernel)⟩
theorem lw_p53 : lw_okq (⟨"PotentialBench$Whole", "divideByDigit", "(I)V"⟩, 3) := ⟨⟨by decide +kernel, by decide +kernel⟩, List.mem_of_getElem? (i := 33) (by decide +kernel), List.mem_of_getElem? (i := 676) (by decide +kernel), List.mem_of_getElem? (i := 677) (by decide +kernel)⟩
theorem lw_p54 : lw_okq (⟨"PotentialBench$Whole", "bitsFree", "()I"⟩, 3) := ⟨⟨by decide +kernel, by decide +kernel⟩, List.mem_of_getElem? (i := 33) (by decide +kernel), List.mem_of_getElem? (i := 680) (by decide +kernel), List.mem_of_getElem? (i := 681) (by decide +kernel)⟩
theorem lw_p55 : lw_okq (⟨"PotentialBench$Whole", "shift", "(LPotentialBench$Whole;I)V"⟩, 3) := ⟨⟨by decide +kernel, by decide +kernel⟩, List.mem_of_getElem? (i := 33) (by decide +kernel), List.mem_of_getElem? (i := 685) (by decide +kernel), List.mem_of_getElem? (i := 686) (by decide +kernel)⟩
theorem lw_p56 : lw_okq (⟨"PotentialBench$Whole", "guess", "(LPotentialBench$Whole;II)J"⟩, 3) := ⟨⟨by decide +kernel, by decide +kernel⟩, List.mem_of_getElem? (i := 33) (by decide +kernel), List.mem_of_getElem? (i := 689) (by decide +kernel), List.mem_of_getElem? (i := 690) (by decide +kernel)⟩
theorem lw_p57 : lw_okq (⟨"PotentialBench$Whole", "takeOff", "(LPotentialBench$Whole;IIJ)J"⟩, 3) := ⟨⟨by decide +kernel, by decide +kernel⟩, List.mem_of_getElem? (i := 33) (by decide +kernel), List.mem_of_getElem? (i := 693) (by decide +kernel), List.mem_of_getElem? (i := 694) (by decide +kernel)⟩
theorem lw_p58 : lw_okq (⟨"PotentialBench$Solver", "swapUnknowns", "(II)V"⟩, 14) := ⟨⟨by decide +kernel, by decide +kernel⟩, List.mem_of_getElem? (i := 26) (by decide +kernel), List.mem_of_getElem? (i := 699) (by decide +kernel), List.mem_of_getElem? (i := 700) (by decide +kernel)⟩
theorem lw_p59 : lw_okq (⟨"PotentialBench$Best", "take", "(LPotentialBench$Solver;)V"⟩, 8) := ⟨⟨by decide +kernel, by decide +kernel⟩, List.mem_of_getElem? (i := 95) (by decide +kernel), List.mem_of_getElem? (i := 703) (by decide +kernel), List.mem_of_getElem? (i := 704) (by decide +kernel)⟩
theorem lw_p60 : lw_okq (⟨"PotentialBench$Solver", "tell", "(ILPotentialBench$Whole;)V"⟩, 14) := ⟨⟨by decide +kernel, by decide +kernel⟩, List.mem_of_getElem? (i := 26) (by decide +kernel), List.mem_of_getElem? (i := 708) (by decide +kernel), List.mem_of_getElem? (i := 709) (by decide +kernel)⟩
theorem lw_p61 : lw_okq (⟨"PotentialBench$Best", "has", "(I)Z"⟩, 8) := ⟨⟨by decide +kernel, by decide +kernel⟩, List.mem_of_getElem? (i := 95) (by decide +kernel), List.mem_of_getElem? (i := 720) (by decide +kernel), List.mem_of_getElem? (i := 721) (by decide +kernel)⟩
theorem lw_p62 : lw_okq (⟨"PotentialBench$Best", "doubled", "(II)J"⟩, 8) := ⟨⟨by decide +kernel, by decide +kernel⟩, List.mem_of_getElem? (i := 95) (by decide +kernel), List.mem_of_getElem? (i := 725) (by decide +kernel), List.mem_of_getElem? (i := 726) (by decide +kernel)⟩
theorem lw_p63 : lw_okq (⟨"PotentialBench$Best", "reaches", "(IIIJ)Z"⟩, 8) := ⟨⟨by decide +kernel, by decide +kernel⟩, List.mem_of_getElem? (i := 95) (by decide +kernel), List.mem_of_getElem? (i := 740) (by decide +kernel), List.mem_of_getElem? (i := 741) (by decide +kernel)⟩
def lw_privs_4 : List (MethodName × Nat) := [(⟨"PotentialBench$Solver", "exchange", "(II)V"⟩, 14), (⟨"PotentialBench$Solver", "put", "(LPotentialBench$Whole;LPotentialBench$Whole;LPotentialBench$Whole;)V"⟩, 14), (⟨"PotentialBench$Whole", "addAmount", "(LPotentialBench$Whole;)V"⟩, 3), (⟨"PotentialBench$Whole", "digit", "(I)I"⟩, 3), (⟨"PotentialBench$Whole", "differ", "(LPotentialBench$Whole;LPotentialBench$Whole;)V"⟩, 3), (⟨"PotentialBench$Whole", "divideByDigit", "(I)V"⟩, 3), (⟨"PotentialBench$Whole", "bitsFree", "()I"⟩, 3), (⟨"PotentialBench$Whole", "shift", "(LPotentialBench$Whole;I)V"⟩, 3), (⟨"PotentialBench$Whole", "guess", "(LPotentialBench$Whole;II)J"⟩, 3), (⟨"PotentialBench$Whole", "takeOff", "(LPotentialBench$Whole;IIJ)J"⟩, 3), (⟨"PotentialBench$Solver", "swapUnknowns", "(II)V"⟩, 14), (⟨"PotentialBench$Best", "take", "(LPotentialBench$Solver;)V"⟩, 8), (⟨"PotentialBench$Solver", "tell", "(ILPotentialBench$Whole;)V"⟩, 14), (⟨"PotentialBench$Best", "has", "(I)Z"⟩, 8), (⟨"PotentialBench$Best", "doubled", "(II)J"⟩, 8), (⟨"PotentialBench$Best", "reaches", "(IIIJ)Z"⟩, 8)]
theorem lw_r4 : ∀ q ∈ lw_privs_4, lw_okq q := List.forall_mem_cons.mpr ⟨lw_p48, List.forall_mem_cons.mpr ⟨lw_p49, List.forall_mem_cons.mpr ⟨lw_p50, List.forall_mem_cons.mpr ⟨lw_p51, List.forall_mem_cons.mpr ⟨lw_p52, List.forall_mem_cons.mpr ⟨lw_p53, List.forall_mem_cons.mpr ⟨lw_p54, List.forall_mem_cons.mpr ⟨lw_p55, List.forall_mem_cons.mpr ⟨lw_p56, List.forall_mem_cons.mpr ⟨lw_p57, List.forall_mem_cons.mpr ⟨lw_p58, List.forall_mem_cons.mpr ⟨lw_p59, List.forall_mem_cons.mpr ⟨lw_p60, List.forall_mem_cons.mpr ⟨lw_p61, List.forall_mem_cons.mpr ⟨lw_p62, List.forall_mem_cons.mpr ⟨lw_p63, fun _ h => absurd h List.not_mem_nil⟩⟩⟩⟩⟩⟩⟩⟩⟩⟩⟩⟩⟩⟩⟩⟩
theorem lw_p64 : lw_okq (⟨"PotentialBench$Best", "addTimes", "(II)V"⟩, 8) := ⟨⟨by decide +kernel, by decide +kernel⟩, List.mem_of_getElem? (i := 95) (by decide +kernel), List.mem_of_getElem? (i := 744) (by decide +kernel), List.mem_of_getElem? (i := 745) (by decide +kernel)⟩
theorem lw_p65 : lw_okq (⟨"PotentialBenchModel", "isFunction", "(I)Z"⟩, 61) := ⟨⟨by decide +kernel, by decide +kernel⟩, List.mem_of_getElem? (i := 750) (by decide +kernel), List.mem_of_getElem? (i := 952) (by decide +kernel), List.mem_of_getElem? (i := 953) (by decide +kernel)⟩
theorem lw_p66 : lw_okq (⟨"PotentialBenchModel", "wrong", "(I)I"⟩, 61) := ⟨⟨by decide +kernel, by decide +kernel⟩, List.mem_of_getElem? (i := 750) (by decide +kernel), List.mem_of_getElem? (i := 964) (by decide +kernel), List.mem_of_getElem? (i := 965) (by decide +kernel)⟩
theorem lw_p67 : lw_okq (⟨"PotentialBenchModel", "wrongHead", "(III)I"⟩, 61) := ⟨⟨by decide +kernel, by decide +kernel⟩, List.mem_of_getElem? (i := 750) (by decide +kernel), List.mem_of_getElem? (i := 968) (by decide +kernel), List.mem_of_getElem? (i := 969) (by decide +kernel)⟩
theorem lw_p68 : lw_okq (⟨"PotentialBenchModel", "headOf", "(II)I"⟩, 61) := ⟨⟨by decide +kernel, by decide +kernel⟩, List.mem_of_getElem? (i := 750) (by decide +kernel), List.mem_of_getElem? (i := 972) (by decide +kernel), List.mem_of_getElem? (i := 973) (by decide +kernel)⟩
theorem lw_p69 : lw_okq (⟨"PotentialBenchModel", "close", "(II)Z"⟩, 61) := ⟨⟨by decide +kernel, by decide +kernel⟩, List.mem_of_getElem? (i := 750) (by decide +kernel), List.mem_of_getElem? (i := 976) (by decide +kernel), List.mem_of_getElem? (i := 977) (by decide +kernel)⟩
theorem lw_p70 : lw_okq (⟨"PotentialBenchModel", "knownBehind", "(I)I"⟩, 61) := ⟨⟨by decide +kernel, by decide +kernel⟩, List.mem_of_getElem? (i := 750) (by decide +kernel), List.mem_of_getElem? (i := 983) (by decide +kernel), List.mem_of_getElem? (i := 984) (by decide +kernel)⟩
theorem lw_p71 : lw_okq (⟨"PotentialBenchModel", "isRight", "()Z"⟩, 61) := ⟨⟨by decide +kernel, by decide +kernel⟩, List.mem_of_getElem? (i := 750) (by decide +kernel), List.mem_of_getElem? (i := 995) (by decide +kernel), List.mem_of_getElem? (i := 996) (by decide +kernel)⟩
theorem lw_p72 : lw_okq (⟨"PotentialBenchModel", "enter", "(II)V"⟩, 61) := ⟨⟨by decide +kernel, by decide +kernel⟩, List.mem_of_getElem? (i := 750) (by decide +kernel), List.mem_of_getElem? (i := 999) (by decide +kernel), List.mem_of_getElem? (i := 1000) (by decide +kernel)⟩
theorem lw_p73 : lw_okq (⟨"PotentialBenchModel", "beginOne", "()V"⟩, 61) := ⟨⟨by decide +kernel, by decide +kernel⟩, List.mem_of_getElem? (i := 750) (by decide +kernel), List.mem_of_getElem? (i := 1003) (by decide +kernel), List.mem_of_getElem? (i := 1004) (by decide +kernel)⟩
theorem lw_p74 : lw_okq (⟨"PotentialBenchModel", "wait", "(II)V"⟩, 61) := ⟨⟨by decide +kernel, by decide +kernel⟩, List.mem_of_getElem? (i := 750) (by decide +kernel), List.mem_of_getElem? (i := 1007) (by decide +kernel), List.mem_of_getElem? (i := 1008) (by decide +kernel)⟩
theorem lw_p75 : lw_okq (⟨"PotentialBenchModel", "giveOn", "()V"⟩, 61) := ⟨⟨by decide +kernel, by decide +kernel⟩, List.mem_of_getElem? (i := 750) (by decide +kernel), List.mem_of_getElem? (i := 1011) (by decide +kernel), List.mem_of_getElem? (i := 1012) (by decide +kernel)⟩
theorem lw_p76 : lw_okq (⟨"PotentialBenchModel", "needBody", "(I)V"⟩, 61) := ⟨⟨by decide +kernel, by decide +kernel⟩, List.mem_of_getElem? (i := 750) (by decide +kernel), List.mem_of_getElem? (i := 1031) (by decide +kernel), List.mem_of_getElem? (i := 1032) (by decide +kernel)⟩
theorem lw_p77 : lw_okq (⟨"PotentialBenchModel", "clear", "(I)V"⟩, 61) := ⟨⟨by decide +kernel, by decide +kernel⟩, List.mem_of_getElem? (i := 750) (by decide +kernel), List.mem_of_getElem? (i := 1038) (by decide +kernel), List.mem_of_getElem? (i := 1039) (by decide +kernel)⟩
theorem lw_p78 : lw_okq (⟨"PotentialBenchModel", "unknown", "(II)I"⟩, 61) := ⟨⟨by decide +kernel, by decide +kernel⟩, List.mem_of_getElem? (i := 750) (by decide +kernel), List.mem_of_getElem? (i := 1042) (by decide +kernel), List.mem_of_getElem? (i := 1043) (by decide +kernel)⟩
theorem lw_p79 : lw_okq (⟨"PotentialBenchModel", "needOf", "(III)I"⟩, 61) := ⟨⟨by decide +kernel, by decide +kernel⟩, List.mem_of_getElem? (i := 750) (by decide +kernel), List.mem_of_getElem? (i := 1046) (by decide +kernel), List.mem_of_getElem? (i := 1047) (by decide +kernel)⟩
def lw_privs_5 : List (MethodName × Nat) := [(⟨"PotentialBench$Best", "addTimes", "(II)V"⟩, 8), (⟨"PotentialBenchModel", "isFunction", "(I)Z"⟩, 61), (⟨"PotentialBenchModel", "wrong", "(I)I"⟩, 61), (⟨"PotentialBenchModel", "wrongHead", "(III)I"⟩, 61), (⟨"PotentialBenchModel", "headOf", "(II)I"⟩, 61), (⟨"PotentialBenchModel", "close", "(II)Z"⟩, 61), (⟨"PotentialBenchModel", "knownBehind", "(I)I"⟩, 61), (⟨"PotentialBenchModel", "isRight", "()Z"⟩, 61), (⟨"PotentialBenchModel", "enter", "(II)V"⟩, 61), (⟨"PotentialBenchModel", "beginOne", "()V"⟩, 61), (⟨"PotentialBenchModel", "wait", "(II)V"⟩, 61), (⟨"PotentialBenchModel", "giveOn", "()V"⟩, 61), (⟨"PotentialBenchModel", "needBody", "(I)V"⟩, 61), (⟨"PotentialBenchModel", "clear", "(I)V"⟩, 61), (⟨"PotentialBenchModel", "unknown", "(II)I"⟩, 61), (⟨"PotentialBenchModel", "needOf", "(III)I"⟩, 61)]
theorem lw_r5 : ∀ q ∈ lw_privs_5, lw_okq q := List.forall_mem_cons.mpr ⟨lw_p64, List.forall_mem_cons.mpr ⟨lw_p65, List.forall_mem_cons.mpr ⟨lw_p66, List.forall_mem_cons.mpr ⟨lw_p67, List.forall_mem_cons.mpr ⟨lw_p68, List.forall_mem_cons.mpr ⟨lw_p69, List.forall_mem_cons.mpr ⟨lw_p70, List.forall_mem_cons.mpr ⟨lw_p71, List.forall_mem_cons.mpr ⟨lw_p72, List.forall_mem_cons.mpr ⟨lw_p73, List.forall_mem_cons.mpr ⟨lw_p74, List.forall_mem_cons.mpr ⟨lw_p75, List.forall_mem_cons.mpr ⟨lw_p76, List.forall_mem_cons.mpr ⟨lw_p77, List.forall_mem_cons.mpr ⟨lw_p78, List.forall_mem_cons.mpr ⟨lw_p79, fun _ h => absurd h List.not_mem_nil⟩⟩⟩⟩⟩⟩⟩⟩⟩⟩⟩⟩⟩⟩⟩⟩
theorem lw_p80 : lw_okq (⟨"PotentialBenchModel", "openNeed", "(IIII)V"⟩, 61) := ⟨⟨by decide +kernel, by decide +kernel⟩, List.mem_of_getElem? (i := 750) (by decide +kernel), List.mem_of_getElem? (i := 1050) (by decide +kernel), List.mem_of_getElem? (i := 1051) (by decide +kernel)⟩
theorem lw_p81 : lw_okq (⟨"PotentialBenchModel", "newBlock", "(II)I"⟩, 61) := ⟨⟨by decide +kernel, by decide +kernel⟩, List.mem_of_getElem? (i := 750) (by decide +kernel), List.mem_of_getElem? (i := 1054) (by decide +kernel), List.mem_of_getElem? (i := 1055) (by decide +kernel)⟩
theorem lw_p82 : lw_okq (⟨"PotentialBenchModel", "copy", "(II)V"⟩, 61) := ⟨⟨by decide +kernel, by decide +kernel⟩, List.mem_of_getElem? (i := 750) (by decide +kernel), List.mem_of_getElem? (i := 1058) (by decide +kernel), List.mem_of_getElem? (i := 1059) (by decide +kernel)⟩
theorem lw_p83 : lw_okq (⟨"PotentialBenchModel", "firstOf", "(IIII)V"⟩, 61) := ⟨⟨by decide +kernel, by decide +kernel⟩, List.mem_of_getElem? (i := 750) (by decide +kernel), List.mem_of_getElem? (i := 1062) (by decide +kernel), List.mem_of_getElem? (i := 1063) (by decide +kernel)⟩
theorem lw_p84 : lw_okq (⟨"PotentialBenchModel", "add", "(II)V"⟩, 61) := ⟨⟨by decide +kernel, by decide +kernel⟩, List.mem_of_getElem? (i := 750) (by decide +kernel), List.mem_of_getElem? (i := 1066) (by decide +kernel), List.mem_of_getElem? (i := 1067) (by decide +kernel)⟩
theorem lw_p85 : lw_okq (⟨"PotentialBenchModel", "needCall", "(III)V"⟩, 61) := ⟨⟨by decide +kernel, by decide +kernel⟩, List.mem_of_getElem? (i := 750) (by decide +kernel), List.mem_of_getElem? (i := 1070) (by decide +kernel), List.mem_of_getElem? (i := 1071) (by decide +kernel)⟩
theorem lw_p86 : lw_okq (⟨"PotentialBenchModel", "newUnknown", "()I"⟩, 61) := ⟨⟨by decide +kernel, by decide +kernel⟩, List.mem_of_getElem? (i := 750) (by decide +kernel), List.mem_of_getElem? (i := 1074) (by decide +kernel), List.mem_of_getElem? (i := 1075) (by decide +kernel)⟩
theorem lw_p87 : lw_okq (⟨"PotentialBenchModel", "newCondition", "()I"⟩, 61) := ⟨⟨by decide +kernel, by decide +kernel⟩, List.mem_of_getElem? (i := 750) (by decide +kernel), List.mem_of_getElem? (i := 1078) (by decide +kernel), List.mem_of_getElem? (i := 1079) (by decide +kernel)⟩
theorem lw_p88 : lw_okq (⟨"PotentialBenchModel", "take", "(II)V"⟩, 61) := ⟨⟨by decide +kernel, by decide +kernel⟩, List.mem_of_getElem? (i := 750) (by decide +kernel), List.mem_of_getElem? (i := 1082) (by decide +kernel), List.mem_of_getElem? (i := 1083) (by decide +kernel)⟩
theorem lw_p89 : lw_okq (⟨"PotentialBenchModel", "atLeast", "(II)V"⟩, 61) := ⟨⟨by decide +kernel, by decide +kernel⟩, List.mem_of_getElem? (i := 750) (by decide +kernel), List.mem_of_getElem? (i := 1086) (by decide +kernel), List.mem_of_getElem? (i := 1087) (by decide +kernel)⟩
theorem lw_p90 : lw_okq (⟨"PotentialBenchModel", "endNeed", "()V"⟩, 61) := ⟨⟨by decide +kernel, by decide +kernel⟩, List.mem_of_getElem? (i := 750) (by decide +kernel), List.mem_of_getElem? (i := 1090) (by decide +kernel), List.mem_of_getElem? (i := 1091) (by decide +kernel)⟩
theorem lw_p91 : lw_okq (⟨"PotentialBenchModel", "secondOf", "(IIII)V"⟩, 61) := ⟨⟨by decide +kernel, by decide +kernel⟩, List.mem_of_getElem? (i := 750) (by decide +kernel), List.mem_of_getElem? (i := 1094) (by decide +kernel), List.mem_of_getElem? (i := 1095) (by decide +kernel)⟩
theorem lw_p92 : lw_okq (⟨"PotentialBenchModel", "keepAll", "(II)V"⟩, 61) := ⟨⟨by decide +kernel, by decide +kernel⟩, List.mem_of_getElem? (i := 750) (by decide +kernel), List.mem_of_getElem? (i := 1098) (by decide +kernel), List.mem_of_getElem? (i := 1099) (by decide +kernel)⟩
theorem lw_p93 : lw_okq (⟨"PotentialBenchModel", "thirdOf", "(IIII)V"⟩, 61) := ⟨⟨by decide +kernel, by decide +kernel⟩, List.mem_of_getElem? (i := 750) (by decide +kernel), List.mem_of_getElem? (i := 1102) (by decide +kernel), List.mem_of_getElem? (i := 1103) (by decide +kernel)⟩
theorem lw_p94 : lw_okq (⟨"PotentialBenchModel", "needMatch", "(IIIIII)V"⟩, 61) := ⟨⟨by decide +kernel, by decide +kernel⟩, List.mem_of_getElem? (i := 750) (by decide +kernel), List.mem_of_getElem? (i := 1106) (by decide +kernel), List.mem_of_getElem? (i := 1107) (by decide +kernel)⟩
theorem lw_p95 : lw_okq (⟨"PotentialBenchModel", "isNamed", "(IIII)Z"⟩, 61) := ⟨⟨by decide +kernel, by decide +kernel⟩, List.mem_of_getElem? (i := 750) (by decide +kernel), List.mem_of_getElem? (i := 1110) (by decide +kernel), List.mem_of_getElem? (i := 1111) (by decide +kernel)⟩
def lw_privs_6 : List (MethodName × Nat) := [(⟨"PotentialBenchModel", "openNeed", "(IIII)V"⟩, 61), (⟨"PotentialBenchModel", "newBlock", "(II)I"⟩, 61), (⟨"PotentialBenchModel", "copy", "(II)V"⟩, 61), (⟨"PotentialBenchModel", "firstOf", "(IIII)V"⟩, 61), (⟨"PotentialBenchModel", "add", "(II)V"⟩, 61), (⟨"PotentialBenchModel", "needCall", "(III)V"⟩, 61), (⟨"PotentialBenchModel", "newUnknown", "()I"⟩, 61), (⟨"PotentialBenchModel", "newCondition", "()I"⟩, 61), (⟨"PotentialBenchModel", "take", "(II)V"⟩, 61), (⟨"PotentialBenchModel", "atLeast", "(II)V"⟩, 61), (⟨"PotentialBenchModel", "endNeed", "()V"⟩, 61), (⟨"PotentialBenchModel", "secondOf", "(IIII)V"⟩, 61), (⟨"PotentialBenchModel", "keepAll", "(II)V"⟩, 61), (⟨"PotentialBenchModel", "thirdOf", "(IIII)V"⟩, 61), (⟨"PotentialBenchModel", "needMatch", "(IIIIII)V"⟩, 61), (⟨"PotentialBenchModel", "isNamed", "(IIII)Z"⟩, 61)]
theorem lw_r6 : ∀ q ∈ lw_privs_6, lw_okq q := List.forall_mem_cons.mpr ⟨lw_p80, List.forall_mem_cons.mpr ⟨lw_p81, List.forall_mem_cons.mpr ⟨lw_p82, List.forall_mem_cons.mpr ⟨lw_p83, List.forall_mem_cons.mpr ⟨lw_p84, List.forall_mem_cons.mpr ⟨lw_p85, List.forall_mem_cons.mpr ⟨lw_p86, List.forall_mem_cons.mpr ⟨lw_p87, List.forall_mem_cons.mpr ⟨lw_p88, List.forall_mem_cons.mpr ⟨lw_p89, List.forall_mem_cons.mpr ⟨lw_p90, List.forall_mem_cons.mpr ⟨lw_p91, List.forall_mem_cons.mpr ⟨lw_p92, List.forall_mem_cons.mpr ⟨lw_p93, List.forall_mem_cons.mpr ⟨lw_p94, List.forall_mem_cons.mpr ⟨lw_p95, fun _ h => absurd h List.not_mem_nil⟩⟩⟩⟩⟩⟩⟩⟩⟩⟩⟩⟩⟩⟩⟩⟩
theorem lw_p96 : lw_okq (⟨"PotentialBenchModel", "lay", "(I)V"⟩, 61) := ⟨⟨by decide +kernel, by decide +kernel⟩, List.mem_of_getElem? (i := 750) (by decide +kernel), List.mem_of_getElem? (i := 1114) (by decide +kernel), List.mem_of_getElem? (i := 1115) (by decide +kernel)⟩
theorem lw_p97 : lw_okq (⟨"PotentialBenchModel", "put", "(IJ)V"⟩, 61) := ⟨⟨by decide +kernel, by decide +kernel⟩, List.mem_of_getElem? (i := 750) (by decide +kernel), List.mem_of_getElem? (i := 1118) (by decide +kernel), List.mem_of_getElem? (i := 1119) (by decide +kernel)⟩
theorem lw_p98 : lw_okq (⟨"PotentialBenchModel", "reach", "()Z"⟩, 61) := ⟨⟨by decide +kernel, by decide +kernel⟩, List.mem_of_getElem? (i := 750) (by decide +kernel), List.mem_of_getElem? (i := 1126) (by decide +kernel), List.mem_of_getElem? (i := 1127) (by decide +kernel)⟩
theorem lw_p99 : lw_okq (⟨"PotentialBenchModel", "exchange", "(II)V"⟩, 61) := ⟨⟨by decide +kernel, by decide +kernel⟩, List.mem_of_getElem? (i := 750) (by decide +kernel), List.mem_of_getElem? (i := 1130) (by decide +kernel), List.mem_of_getElem? (i := 1131) (by decide +kernel)⟩
theorem lw_p100 : lw_okq (⟨"PotentialBenchModel", "signOf", "(I)I"⟩, 61) := ⟨⟨by decide +kernel, by decide +kernel⟩, List.mem_of_getElem? (i := 750) (by decide +kernel), List.mem_of_getElem? (i := 1134) (by decide +kernel), List.mem_of_getElem? (i := 1135) (by decide +kernel)⟩
theorem lw_p101 : lw_okq (⟨"PotentialBenchModel", "rowBy", "(IIIZ)V"⟩, 61) := ⟨⟨by decide +kernel, by decide +kernel⟩, List.mem_of_getElem? (i := 750) (by decide +kernel), List.mem_of_getElem? (i := 1138) (by decide +kernel), List.mem_of_getElem? (i := 1139) (by decide +kernel)⟩
theorem lw_p102 : lw_okq (⟨"PotentialBenchModel", "turn", "(I)V"⟩, 61) := ⟨⟨by decide +kernel, by decide +kernel⟩, List.mem_of_getElem? (i := 750) (by decide +kernel), List.mem_of_getElem? (i := 1142) (by decide +kernel), List.mem_of_getElem? (i := 1143) (by decide +kernel)⟩
theorem lw_p103 : lw_okq (⟨"PotentialBenchModel", "times", "(II[I)I"⟩, 61) := ⟨⟨by decide +kernel, by decide +kernel⟩, List.mem_of_getElem? (i := 750) (by decide +kernel), List.mem_of_getElem? (i := 1150) (by decide +kernel), List.mem_of_getElem? (i := 1151) (by decide +kernel)⟩
theorem lw_p104 : lw_okq (⟨"PotentialBenchModel", "join", "()V"⟩, 61) := ⟨⟨by decide +kernel, by decide +kernel⟩, List.mem_of_getElem? (i := 750) (by decide +kernel), List.mem_of_getElem? (i := 1157) (by decide +kernel), List.mem_of_getElem? (i := 1158) (by decide +kernel)⟩
theorem lw_p105 : lw_okq (⟨"PotentialBenchModel", "addRows", "()V"⟩, 61) := ⟨⟨by decide +kernel, by decide +kernel⟩, List.mem_of_getElem? (i := 750) (by decide +kernel), List.mem_of_getElem? (i := 1161) (by decide +kernel), List.mem_of_getElem? (i := 1162) (by decide +kernel)⟩
theorem lw_p106 : lw_okq (⟨"PotentialBenchModel", "shiftInto", "(III)V"⟩, 61) := ⟨⟨by decide +kernel, by decide +kernel⟩, List.mem_of_getElem? (i := 750) (by decide +kernel), List.mem_of_getElem? (i := 1177) (by decide +kernel), List.mem_of_getElem? (i := 1178) (by decide +kernel)⟩
theorem lw_p107 : lw_okq (⟨"PotentialBenchModel", "raise", "(I)V"⟩, 61) := ⟨⟨by decide +kernel, by decide +kernel⟩, List.mem_of_getElem? (i := 750) (by decide +kernel), List.mem_of_getElem? (i := 1181) (by decide +kernel), List.mem_of_getElem? (i := 1182) (by decide +kernel)⟩
theorem lw_p108 : lw_okq (⟨"PotentialBenchModel", "digit", "(II)I"⟩, 61) := ⟨⟨by decide +kernel, by decide +kernel⟩, List.mem_of_getElem? (i := 750) (by decide +kernel), List.mem_of_getElem? (i := 1185) (by decide +kernel), List.mem_of_getElem? (i := 1186) (by decide +kernel)⟩
theorem lw_p109 : lw_okq (⟨"PotentialBenchModel", "swapOne", "(IZ)V"⟩, 61) := ⟨⟨by decide +kernel, by decide +kernel⟩, List.mem_of_getElem? (i := 750) (by decide +kernel), List.mem_of_getElem? (i := 1194) (by decide +kernel), List.mem_of_getElem? (i := 1195) (by decide +kernel)⟩
theorem lw_p110 : lw_okq (⟨"PotentialBenchModel", "coming", "(II)I"⟩, 61) := ⟨⟨by decide +kernel, by decide +kernel⟩, List.mem_of_getElem? (i := 750) (by decide +kernel), List.mem_of_getElem? (i := 1199) (by decide +kernel), List.mem_of_getElem? (i := 1200) (by decide +kernel)⟩
theorem lw_p111 : lw_okq (⟨"PotentialBenchModel", "giving", "(I)I"⟩, 61) := ⟨⟨by decide +kernel, by decide +kernel⟩, List.mem_of_getElem? (i := 750) (by decide +kernel), List.mem_of_getElem? (i := 1203) (by decide +kernel), List.mem_of_getElem? (i := 1204) (by decide +kernel)⟩
def lw_privs_7 : List (MethodName × Nat) := [(⟨"PotentialBenchModel", "lay", "(I)V"⟩, 61), (⟨"PotentialBenchModel", "put", "(IJ)V"⟩, 61), (⟨"PotentialBenchModel", "reach", "()Z"⟩, 61), (⟨"PotentialBenchModel", "exchange", "(II)V"⟩, 61), (⟨"PotentialBenchModel", "signOf", "(I)I"⟩, 61), (⟨"PotentialBenchModel", "rowBy", "(IIIZ)V"⟩, 61), (⟨"PotentialBenchModel", "turn", "(I)V"⟩, 61), (⟨"PotentialBenchModel", "times", "(II[I)I"⟩, 61), (⟨"PotentialBenchModel", "join", "()V"⟩, 61), (⟨"PotentialBenchModel", "addRows", "()V"⟩, 61), (⟨"PotentialBenchModel", "shiftInto", "(III)V"⟩, 61), (⟨"PotentialBenchModel", "raise", "(I)V"⟩, 61), (⟨"PotentialBenchModel", "digit", "(II)I"⟩, 61), (⟨"PotentialBenchModel", "swapOne", "(IZ)V"⟩, 61), (⟨"PotentialBenchModel", "coming", "(II)I"⟩, 61), (⟨"PotentialBenchModel", "giving", "(I)I"⟩, 61)]
theorem lw_r7 : ∀ q ∈ lw_privs_7, lw_okq q := List.forall_mem_cons.mpr ⟨lw_p96, List.forall_mem_cons.mpr ⟨lw_p97, List.forall_mem_cons.mpr ⟨lw_p98, List.forall_mem_cons.mpr ⟨lw_p99, List.forall_mem_cons.mpr ⟨lw_p100, List.forall_mem_cons.mpr ⟨lw_p101, List.forall_mem_cons.mpr ⟨lw_p102, List.forall_mem_cons.mpr ⟨lw_p103, List.forall_mem_cons.mpr ⟨lw_p104, List.forall_mem_cons.mpr ⟨lw_p105, List.forall_mem_cons.mpr ⟨lw_p106, List.forall_mem_cons.mpr ⟨lw_p107, List.forall_mem_cons.mpr ⟨lw_p108, List.forall_mem_cons.mpr ⟨lw_p109, List.forall_mem_cons.mpr ⟨lw_p110, List.forall_mem_cons.mpr ⟨lw_p111, fun _ h => absurd h List.not_mem_nil⟩⟩⟩⟩⟩⟩⟩⟩⟩⟩⟩⟩⟩⟩⟩⟩
theorem lw_p112 : lw_okq (⟨"PotentialBenchModel", "shareOf", "(III)I"⟩, 61) := ⟨⟨by decide +kernel, by decide +kernel⟩, List.mem_of_getElem? (i := 750) (by decide +kernel), List.mem_of_getElem? (i := 1207) (by decide +kernel), List.mem_of_getElem? (i := 1208) (by decide +kernel)⟩
theorem lw_p113 : lw_okq (⟨"PotentialBenchModel", "improve", "()V"⟩, 61) := ⟨⟨by decide +kernel, by decide +kernel⟩, List.mem_of_getElem? (i := 750) (by decide +kernel), List.mem_of_getElem? (i := 1215) (by decide +kernel), List.mem_of_getElem? (i := 1216) (by decide +kernel)⟩
theorem lw_p114 : lw_okq (⟨"PotentialBenchModel", "boundAt", "(I)I"⟩, 61) := ⟨⟨by decide +kernel, by decide +kernel⟩, List.mem_of_getElem? (i := 750) (by decide +kernel), List.mem_of_getElem? (i := 1227) (by decide +kernel), List.mem_of_getElem? (i := 1228) (by decide +kernel)⟩
theorem lw_p115 : lw_okq (⟨"PotentialBenchModel", "sum", "(IIIII)V"⟩, 61) := ⟨⟨by decide +kernel, by decide +kernel⟩, List.mem_of_getElem? (i := 750) (by decide +kernel), List.mem_of_getElem? (i := 1236) (by decide +kernel), List.mem_of_getElem? (i := 1237) (by decide +kernel)⟩
def lw_privs_8 : List (MethodName × Nat) := [(⟨"PotentialBenchModel", "shareOf", "(III)I"⟩, 61), (⟨"PotentialBenchModel", "improve", "()V"⟩, 61), (⟨"PotentialBenchModel", "boundAt", "(I)I"⟩, 61), (⟨"PotentialBenchModel", "sum", "(IIIII)V"⟩, 61)]
theorem lw_r8 : ∀ q ∈ lw_privs_8, lw_okq q := List.forall_mem_cons.mpr ⟨lw_p112, List.forall_mem_cons.mpr ⟨lw_p113, List.forall_mem_cons.mpr ⟨lw_p114, List.forall_mem_cons.mpr ⟨lw_p115, fun _ h => absurd h List.not_mem_nil⟩⟩⟩⟩
def lw_privs : List (MethodName × Nat) := lw_privs_1 ++ (lw_privs_2 ++ (lw_privs_3 ++ (lw_privs_4 ++ (lw_privs_5 ++ (lw_privs_6 ++ (lw_privs_7 ++ (lw_privs_8)))))))
def lw_tbl : List Cond := k2_sels lw_privs ++ tables_1
theorem lw_privs_ok : ∀ q ∈ lw_privs, lw_okq q := by
  show ∀ q ∈ lw_privs_1 ++ (lw_privs_2 ++ (lw_privs_3 ++ (lw_privs_4 ++ (lw_privs_5 ++ (lw_privs_6 ++ (lw_privs_7 ++ (lw_privs_8))))))), lw_okq q
  exact List.forall_mem_append.mpr ⟨lw_r1, List.forall_mem_append.mpr ⟨lw_r2, List.forall_mem_append.mpr ⟨lw_r3, List.forall_mem_append.mpr ⟨lw_r4, List.forall_mem_append.mpr ⟨lw_r5, List.forall_mem_append.mpr ⟨lw_r6, List.forall_mem_append.mpr ⟨lw_r7, lw_r8⟩⟩⟩⟩⟩⟩⟩

/-- the words that every method's contract asks for, beside its own code: all of the tables that a call hands on -/
def gt : List Cond := lw_tbl.filter goodWord
theorem gt_t {w : Cond} (h : w ∈ tables_1) (hg : goodWord w = true) : w ∈ gt := List.mem_filter.mpr ⟨List.mem_append_right _ h, hg⟩
theorem gt_i (i : Nat) {w : Cond} (h : tables_1[i]? = some w) (hg : goodWord w = true) : w ∈ gt := gt_t (List.mem_of_getElem? h) hg
theorem gt_p {q : MethodName × Nat} (h : q ∈ lw_privs) : Cond.selects q.1.cls q.1 q.1 ∈ gt := List.mem_filter.mpr ⟨List.mem_append_left _ (List.mem_map.mpr ⟨q, h, rfl⟩), rfl⟩
theorem gt_ps (ws : List Cond) (ps : List Nat) (hp : ws = ps.filterMap (fun i => tables_1[i]?)) (h : ws.all goodWord = true) : ∀ w ∈ ws, w ∈ gt := by
  intro w hw
  have h1 := List.all_eq_true.mp h w hw
  rw [hp] at hw
  obtain ⟨i, -, hi⟩ := List.mem_filterMap.mp hw
  exact gt_i i hi h1
theorem gt_good : ∀ w ∈ gt, ((w.onTables && w.keeps) = true ∨ ∃ ty, w = .arrayClass ty) := fun w h => good_of_word (List.mem_filter.mp h).2
theorem gt_self {x : Cond} (hx : x ∈ gt) : GoodIn gt (x :: gt) := fun w h => (List.mem_cons.mp h).elim (fun e => by rw [e]; exact ⟨hx, gt_good x hx⟩) (fun h => ⟨h, gt_good w h⟩)
theorem gt_law : ∀ w ∈ gt, w ∈ lw_tbl := fun w h => (List.mem_filter.mp h).1

def R_PB : String := "PotentialBench"
def T_PB : u_T := fun k => match k with
  | 0 => ("PotentialBench", "bodies", "[LPotentialBench$Body;", true)
  | 1 => ("PotentialBench", "reader", "LPotentialBench$Reader;", true)
  | 2 => ("PotentialBench", "runner", "LPotentialBench$Runner;", true)
  | 3 => ("PotentialBench", "needs", "LPotentialBench$Needs;", true)
  | 4 => ("PotentialBench", "solver", "LPotentialBench$Solver;", true)
  | 5 => ("PotentialBench", "best", "LPotentialBench$Best;", true)
  | 6 => ("PotentialBench", "functions", "I", false)
  | 7 => ("PotentialBench", "wrongPlace", "I", false)
  | _ => ("PotentialBench", "isTold", "Z", false)
def t_PB : Nat → FieldType := fun k => match k with
  | 0 => .array (.object "PotentialBench$Body")
  | 1 => .object "PotentialBench$Reader"
  | 2 => .object "PotentialBench$Runner"
  | 3 => .object "PotentialBench$Needs"
  | 4 => .object "PotentialBench$Solver"
  | 5 => .object "PotentialBench$Best"
  | 6 => .int
  | 7 => .int
  | _ => .boolean
theorem n_PB : ∀ a, a < 9 → ∀ b, b < 9 → a ≠ b → (T_PB a).2.1 ≠ (T_PB b).2.1 := by decide +kernel
theorem k_PB : ∀ k, k < 9 → parseFieldDescriptor (T_PB k).2.2.1 = some (t_PB k) := by decide +kernel
theorem in_PB : ∀ w ∈ u_ws R_PB T_PB 9, w ∈ gt := gt_ps _ [307, 309, 311, 313, 315, 317, 319, 321, 323] (by decide +kernel) (by decide +kernel)
def R_So : String := "PotentialBench$Solver"
def T_So : u_T := fun k => match k with
  | 0 => ("PotentialBench$Solver", "cells", "[LPotentialBench$Whole;", true)
  | 1 => ("PotentialBench$Solver", "rowOf", "[I", true)
  | 2 => ("PotentialBench$Solver", "columnOf", "[I", true)
  | 3 => ("PotentialBench$Solver", "unknownOfRow", "[I", true)
  | 4 => ("PotentialBench$Solver", "unknownOfColumn", "[I", true)
  | 5 => ("PotentialBench$Solver", "under", "LPotentialBench$Whole;", true)
  | 6 => ("PotentialBench$Solver", "pivot", "LPotentialBench$Whole;", true)
  | 7 => ("PotentialBench$Solver", "left", "LPotentialBench$Whole;", true)
  | 8 => ("PotentialBench$Solver", "right", "LPotentialBench$Whole;", true)
  | 9 => ("PotentialBench$Solver", "rest", "LPotentialBench$Whole;", true)
  | 10 => ("PotentialBench$Solver", "rows", "I", false)
  | 11 => ("PotentialBench$Solver", "columns", "I", false)
  | 12 => ("PotentialBench$Solver", "firstSought", "I", false)
  | _ => ("PotentialBench$Solver", "takes", "I", false)
def t_So : Nat → FieldType := fun k => match k with
  | 0 => .array (.object "PotentialBench$Whole")
  | 1 => .array .int
  | 2 => .array .int
  | 3 => .array .int
  | 4 => .array .int
  | 5 => .object "PotentialBench$Whole"
  | 6 => .object "PotentialBench$Whole"
  | 7 => .object "PotentialBench$Whole"
  | 8 => .object "PotentialBench$Whole"
  | 9 => .object "PotentialBench$Whole"
  | 10 => .int
  | 11 => .int
  | 12 => .int
  | _ => .int
theorem n_So : ∀ a, a < 14 → ∀ b, b < 14 → a ≠ b → (T_So a).2.1 ≠ (T_So b).2.1 := by decide +kernel
theorem k_So : ∀ k, k < 14 → parseFieldDescriptor (T_So k).2.2.1 = some (t_So k) := by decide +kernel
theorem in_So : ∀ w ∈ u_ws R_So T_So 14, w ∈ gt := gt_ps _ [65, 67, 69, 71, 73, 75, 77, 79, 81, 83, 85, 87, 89, 91] (by decide +kernel) (by decide +kernel)
def R_Wh : String := "PotentialBench$Whole"
def T_Wh : u_T := fun k => match k with
  | 0 => ("PotentialBench$Whole", "digits", "[I", false)
  | 1 => ("PotentialBench$Whole", "size", "I", false)
  | _ => ("PotentialBench$Whole", "sign", "I", false)
def t_Wh : Nat → FieldType := fun k => match k with
  | 0 => .array .int
  | 1 => .int
  | _ => .int
theorem n_Wh : ∀ a, a < 3 → ∀ b, b < 3 → a ≠ b → (T_Wh a).2.1 ≠ (T_Wh b).2.1 := by decide +kernel
theorem k_Wh : ∀ k, k < 3 → parseFieldDescriptor (T_Wh k).2.2.1 = some (t_Wh k) := by decide +kernel
theorem in_Wh : ∀ w ∈ u_ws R_Wh T_Wh 3, w ∈ gt := gt_ps _ [41, 43, 45] (by decide +kernel) (by decide +kernel)
def R_Be : String := "PotentialBench$Best"
def T_Be : u_T := fun k => match k with
  | 0 => ("PotentialBench$Best", "parts", "[LPotentialBench$Whole;", true)
  | 1 => ("PotentialBench$Best", "under", "LPotentialBench$Whole;", true)
  | 2 => ("PotentialBench$Best", "sum", "LPotentialBench$Whole;", true)
  | 3 => ("PotentialBench$Best", "factor", "LPotentialBench$Whole;", true)
  | 4 => ("PotentialBench$Best", "product", "LPotentialBench$Whole;", true)
  | 5 => ("PotentialBench$Best", "rest", "LPotentialBench$Whole;", true)
  | 6 => ("PotentialBench$Best", "isFound", "Z", false)
  | _ => ("PotentialBench$Best", "takes", "I", false)
def t_Be : Nat → FieldType := fun k => match k with
  | 0 => .array (.object "PotentialBench$Whole")
  | 1 => .object "PotentialBench$Whole"
  | 2 => .object "PotentialBench$Whole"
  | 3 => .object "PotentialBench$Whole"
  | 4 => .object "PotentialBench$Whole"
  | 5 => .object "PotentialBench$Whole"
  | 6 => .boolean
  | _ => .int
theorem n_Be : ∀ a, a < 8 → ∀ b, b < 8 → a ≠ b → (T_Be a).2.1 ≠ (T_Be b).2.1 := by decide +kernel
theorem k_Be : ∀ k, k < 8 → parseFieldDescriptor (T_Be k).2.2.1 = some (t_Be k) := by decide +kernel
theorem in_Be : ∀ w ∈ u_ws R_Be T_Be 8, w ∈ gt := gt_ps _ [111, 113, 115, 117, 119, 121, 123, 125] (by decide +kernel) (by decide +kernel)
def R_Bo : String := "PotentialBench$Body"
def T_Bo : u_T := fun k => match k with
  | 0 => ("PotentialBench$Body", "words", "[I", true)
  | 1 => ("PotentialBench$Body", "start", "[I", true)
  | 2 => ("PotentialBench$Body", "first", "[I", true)
  | 3 => ("PotentialBench$Body", "second", "[I", true)
  | 4 => ("PotentialBench$Body", "known", "[I", true)
  | 5 => ("PotentialBench$Body", "named", "[I", true)
  | 6 => ("PotentialBench$Body", "takes", "I", false)
  | 7 => ("PotentialBench$Body", "size", "I", false)
  | _ => ("PotentialBench$Body", "nodes", "I", false)
def t_Bo : Nat → FieldType := fun k => match k with
  | 0 => .array .int
  | 1 => .array .int
  | 2 => .array .int
  | 3 => .array .int
  | 4 => .array .int
  | 5 => .array .int
  | 6 => .int
  | 7 => .int
  | _ => .int
theorem n_Bo : ∀ a, a < 9 → ∀ b, b < 9 → a ≠ b → (T_Bo a).2.1 ≠ (T_Bo b).2.1 := by decide +kernel
theorem k_Bo : ∀ k, k < 9 → parseFieldDescriptor (T_Bo k).2.2.1 = some (t_Bo k) := by decide +kernel
theorem in_Bo : ∀ w ∈ u_ws R_Bo T_Bo 9, w ∈ gt := gt_ps _ [159, 161, 163, 165, 167, 169, 171, 173, 175] (by decide +kernel) (by decide +kernel)
def R_Re : String := "PotentialBench$Reader"
def T_Re : u_T := fun k => match k with
  | 0 => ("PotentialBench$Reader", "bodies", "[LPotentialBench$Body;", true)
  | 1 => ("PotentialBench$Reader", "body", "LPotentialBench$Body;", false)
  | 2 => ("PotentialBench$Reader", "functions", "I", false)
  | 3 => ("PotentialBench$Reader", "next", "I", false)
  | _ => ("PotentialBench$Reader", "wrong", "I", false)
def t_Re : Nat → FieldType := fun k => match k with
  | 0 => .array (.object "PotentialBench$Body")
  | 1 => .object "PotentialBench$Body"
  | 2 => .int
  | 3 => .int
  | _ => .int
theorem n_Re : ∀ a, a < 5 → ∀ b, b < 5 → a ≠ b → (T_Re a).2.1 ≠ (T_Re b).2.1 := by decide +kernel
theorem k_Re : ∀ k, k < 5 → parseFieldDescriptor (T_Re k).2.2.1 = some (t_Re k) := by decide +kernel
theorem in_Re : ∀ w ∈ u_ws R_Re T_Re 5, w ∈ gt := gt_ps _ [190, 192, 194, 196, 198] (by decide +kernel) (by decide +kernel)
def R_Ru : String := "PotentialBench$Runner"
def T_Ru : u_T := fun k => match k with
  | 0 => ("PotentialBench$Runner", "bodies", "[LPotentialBench$Body;", true)
  | 1 => ("PotentialBench$Runner", "called", "[I", true)
  | 2 => ("PotentialBench$Runner", "lengths", "[I", true)
  | 3 => ("PotentialBench$Runner", "waits", "[I", true)
  | 4 => ("PotentialBench$Runner", "waitingBefore", "[I", true)
  | 5 => ("PotentialBench$Runner", "calls", "I", false)
  | 6 => ("PotentialBench$Runner", "waiting", "I", false)
  | 7 => ("PotentialBench$Runner", "node", "I", false)
  | 8 => ("PotentialBench$Runner", "length", "I", false)
  | 9 => ("PotentialBench$Runner", "begun", "I", false)
  | 10 => ("PotentialBench$Runner", "paid", "J", false)
  | _ => ("PotentialBench$Runner", "gave", "I", false)
def t_Ru : Nat → FieldType := fun k => match k with
  | 0 => .array (.object "PotentialBench$Body")
  | 1 => .array .int
  | 2 => .array .int
  | 3 => .array .int
  | 4 => .array .int
  | 5 => .int
  | 6 => .int
  | 7 => .int
  | 8 => .int
  | 9 => .int
  | 10 => .long
  | _ => .int
theorem n_Ru : ∀ a, a < 12 → ∀ b, b < 12 → a ≠ b → (T_Ru a).2.1 ≠ (T_Ru b).2.1 := by decide +kernel
theorem k_Ru : ∀ k, k < 12 → parseFieldDescriptor (T_Ru k).2.2.1 = some (t_Ru k) := by decide +kernel
theorem in_Ru : ∀ w ∈ u_ws R_Ru T_Ru 12, w ∈ gt := gt_ps _ [222, 224, 226, 228, 230, 232, 234, 236, 238, 240, 242, 244] (by decide +kernel) (by decide +kernel)
def R_Ne : String := "PotentialBench$Needs"
def T_Ne : u_T := fun k => match k with
  | 0 => ("PotentialBench$Needs", "bodies", "[LPotentialBench$Body;", true)
  | 1 => ("PotentialBench$Needs", "firstOf", "[I", true)
  | 2 => ("PotentialBench$Needs", "conditions", "[[I", true)
  | 3 => ("PotentialBench$Needs", "spare", "[I", true)
  | 4 => ("PotentialBench$Needs", "nothing", "[I", true)
  | 5 => ("PotentialBench$Needs", "sums", "[[I", true)
  | 6 => ("PotentialBench$Needs", "brought", "[[I", true)
  | 7 => ("PotentialBench$Needs", "besides", "[[I", true)
  | 8 => ("PotentialBench$Needs", "body", "LPotentialBench$Body;", false)
  | 9 => ("PotentialBench$Needs", "unknowns", "I", false)
  | 10 => ("PotentialBench$Needs", "count", "I", false)
  | _ => ("PotentialBench$Needs", "isFull", "Z", false)
def t_Ne : Nat → FieldType := fun k => match k with
  | 0 => .array (.object "PotentialBench$Body")
  | 1 => .array .int
  | 2 => .array (.array .int)
  | 3 => .array .int
  | 4 => .array .int
  | 5 => .array (.array .int)
  | 6 => .array (.array .int)
  | 7 => .array (.array .int)
  | 8 => .object "PotentialBench$Body"
  | 9 => .int
  | 10 => .int
  | _ => .boolean
theorem n_Ne : ∀ a, a < 12 → ∀ b, b < 12 → a ≠ b → (T_Ne a).2.1 ≠ (T_Ne b).2.1 := by decide +kernel
theorem k_Ne : ∀ k, k < 12 → parseFieldDescriptor (T_Ne k).2.2.1 = some (t_Ne k) := by decide +kernel
theorem in_Ne : ∀ w ∈ u_ws R_Ne T_Ne 12, w ∈ gt := gt_ps _ [273, 275, 277, 279, 281, 283, 285, 287, 289, 291, 293, 295] (by decide +kernel) (by decide +kernel)
def R_Mo : String := "PotentialBenchModel"
def T_Mo : u_T := fun k => match k with
  | 0 => ("PotentialBenchModel", "functions", "I", false)
  | 1 => ("PotentialBenchModel", "takes", "[I", true)
  | 2 => ("PotentialBenchModel", "words", "[I", true)
  | 3 => ("PotentialBenchModel", "counts", "[I", true)
  | 4 => ("PotentialBenchModel", "place", "I", false)
  | 5 => ("PotentialBenchModel", "ends", "[I", true)
  | 6 => ("PotentialBenchModel", "openAt", "[I", true)
  | 7 => ("PotentialBenchModel", "openParts", "[I", true)
  | 8 => ("PotentialBenchModel", "openKnown", "[I", true)
  | 9 => ("PotentialBenchModel", "open", "I", false)
  | 10 => ("PotentialBenchModel", "cost", "J", false)
  | 11 => ("PotentialBenchModel", "given", "I", false)
  | 12 => ("PotentialBenchModel", "steps", "I", false)
  | 13 => ("PotentialBenchModel", "waitKinds", "[I", true)
  | 14 => ("PotentialBenchModel", "waitFunctions", "[I", true)
  | 15 => ("PotentialBenchModel", "waitAts", "[I", true)
  | 16 => ("PotentialBenchModel", "waitBases", "[I", true)
  | 17 => ("PotentialBenchModel", "waitKnowns", "[I", true)
  | 18 => ("PotentialBenchModel", "waiting", "I", false)
  | 19 => ("PotentialBenchModel", "variables", "[I", true)
  | 20 => ("PotentialBenchModel", "base", "I", false)
  | 21 => ("PotentialBenchModel", "known", "I", false)
  | 22 => ("PotentialBenchModel", "now", "I", false)
  | 23 => ("PotentialBenchModel", "at", "I", false)
  | 24 => ("PotentialBenchModel", "calls", "I", false)
  | 25 => ("PotentialBenchModel", "tooLong", "Z", false)
  | 26 => ("PotentialBenchModel", "value", "I", false)
  | 27 => ("PotentialBenchModel", "lines", "[J", true)
  | 28 => ("PotentialBenchModel", "blocks", "I", false)
  | 29 => ("PotentialBenchModel", "unknowns", "I", false)
  | 30 => ("PotentialBenchModel", "conditions", "I", false)
  | 31 => ("PotentialBenchModel", "full", "Z", false)
  | 32 => ("PotentialBenchModel", "firsts", "[I", true)
  | 33 => ("PotentialBenchModel", "sums", "[J", true)
  | 34 => ("PotentialBenchModel", "needing", "I", false)
  | 35 => ("PotentialBenchModel", "needBlocks", "[I", true)
  | 36 => ("PotentialBenchModel", "needAts", "[I", true)
  | 37 => ("PotentialBenchModel", "needKnowns", "[I", true)
  | 38 => ("PotentialBenchModel", "needPhases", "[I", true)
  | 39 => ("PotentialBenchModel", "needParts", "[I", true)
  | 40 => ("PotentialBenchModel", "ready", "I", false)
  | 41 => ("PotentialBenchModel", "digits", "[I", true)
  | 42 => ("PotentialBenchModel", "sizes", "[I", true)
  | 43 => ("PotentialBenchModel", "below", "[Z", true)
  | 44 => ("PotentialBenchModel", "one", "[I", true)
  | 45 => ("PotentialBenchModel", "two", "[I", true)
  | 46 => ("PotentialBenchModel", "quotient", "[I", true)
  | 47 => ("PotentialBenchModel", "divisor", "[I", true)
  | 48 => ("PotentialBenchModel", "oneSize", "I", false)
  | 49 => ("PotentialBenchModel", "twoSize", "I", false)
  | 50 => ("PotentialBenchModel", "oneBelow", "Z", false)
  | 51 => ("PotentialBenchModel", "twoBelow", "Z", false)
  | 52 => ("PotentialBenchModel", "quotientSize", "I", false)
  | 53 => ("PotentialBenchModel", "rows", "I", false)
  | 54 => ("PotentialBenchModel", "aims", "I", false)
  | 55 => ("PotentialBenchModel", "rowNumbers", "[I", true)
  | 56 => ("PotentialBenchModel", "columnNumbers", "[I", true)
  | 57 => ("PotentialBenchModel", "solved", "Z", false)
  | 58 => ("PotentialBenchModel", "boundFunction", "I", false)
  | 59 => ("PotentialBenchModel", "gone", "I", false)
  | _ => ("PotentialBenchModel", "counted", "Z", false)
def t_Mo : Nat → FieldType := fun k => match k with
  | 0 => .int
  | 1 => .array .int
  | 2 => .array .int
  | 3 => .array .int
  | 4 => .int
  | 5 => .array .int
  | 6 => .array .int
  | 7 => .array .int
  | 8 => .array .int
  | 9 => .int
  | 10 => .long
  | 11 => .int
  | 12 => .int
  | 13 => .array .int
  | 14 => .array .int
  | 15 => .array .int
  | 16 => .array .int
  | 17 => .array .int
  | 18 => .int
  | 19 => .array .int
  | 20 => .int
  | 21 => .int
  | 22 => .int
  | 23 => .int
  | 24 => .int
  | 25 => .boolean
  | 26 => .int
  | 27 => .array .long
  | 28 => .int
  | 29 => .int
  | 30 => .int
  | 31 => .boolean
  | 32 => .array .int
  | 33 => .array .long
  | 34 => .int
  | 35 => .array .int
  | 36 => .array .int
  | 37 => .array .int
  | 38 => .array .int
  | 39 => .array .int
  | 40 => .int
  | 41 => .array .int
  | 42 => .array .int
  | 43 => .array .boolean
  | 44 => .array .int
  | 45 => .array .int
  | 46 => .array .int
  | 47 => .array .int
  | 48 => .int
  | 49 => .int
  | 50 => .boolean
  | 51 => .boolean
  | 52 => .int
  | 53 => .int
  | 54 => .int
  | 55 => .array .int
  | 56 => .array .int
  | 57 => .boolean
  | 58 => .int
  | 59 => .int
  | _ => .boolean
theorem n_Mo : ∀ a, a < 61 → ∀ b, b < 61 → a ≠ b → (T_Mo a).2.1 ≠ (T_Mo b).2.1 := by decide +kernel
theorem k_Mo : ∀ k, k < 61 → parseFieldDescriptor (T_Mo k).2.2.1 = some (t_Mo k) := by decide +kernel
theorem in_Mo : ∀ w ∈ u_ws R_Mo T_Mo 61, w ∈ gt := gt_ps _ [818, 820, 822, 824, 826, 828, 830, 832, 834, 836, 838, 840, 842, 844, 846, 848, 850, 852, 854, 856, 858, 860, 862, 864, 866, 868, 870, 872, 874, 876, 878, 880, 882, 884, 886, 888, 890, 892, 894, 896, 898, 900, 902, 904, 906, 908, 910, 912, 914, 916, 918, 920, 922, 924, 926, 928, 930, 932, 934, 936, 938] (by decide +kernel) (by decide +kernel)
def R_La : String := "PotentialBenchLaw"
/-- the classes whose objects the worlds hold -/
abbrev cls : List vw_C := [(R_PB, T_PB, 9), (R_So, T_So, 14), (R_Wh, T_Wh, 3), (R_Be, T_Be, 8), (R_Bo, T_Bo, 9), (R_Re, T_Re, 5), (R_Ru, T_Ru, 12), (R_Ne, T_Ne, 12), (R_Mo, T_Mo, 61)]
abbrev c_PB_init : ByteArray := prog_1_method_1_code
def y_PB_init : MethodName := ⟨"PotentialBench", "<init>", "()V"⟩
theorem wc_PB_init : Cond.code y_PB_init c_PB_init 2 none ∈ gt := gt_i 19 (by decide +kernel) (by decide +kernel)
abbrev c_So_init : ByteArray := prog_7_method_1_code
def y_So_init : MethodName := ⟨"PotentialBench$Solver", "<init>", "()V"⟩
theorem wc_So_init : Cond.code y_So_init c_So_init 1 none ∈ gt := gt_i 29 (by decide +kernel) (by decide +kernel)
abbrev c_Wh_init : ByteArray := prog_8_method_1_code
def y_Wh_init : MethodName := ⟨"PotentialBench$Whole", "<init>", "()V"⟩
theorem wc_Wh_init : Cond.code y_Wh_init c_Wh_init 1 none ∈ gt := gt_i 36 (by decide +kernel) (by decide +kernel)
abbrev c_Be_init : ByteArray := prog_2_method_1_code
def y_Be_init : MethodName := ⟨"PotentialBench$Best", "<init>", "()V"⟩
theorem wc_Be_init : Cond.code y_Be_init c_Be_init 2 none ∈ gt := gt_i 98 (by decide +kernel) (by decide +kernel)
abbrev c_Bo_init : ByteArray := prog_3_method_1_code
def y_Bo_init : MethodName := ⟨"PotentialBench$Body", "<init>", "()V"⟩
theorem wc_Bo_init : Cond.code y_Bo_init c_Bo_init 1 none ∈ gt := gt_i 131 (by decide +kernel) (by decide +kernel)
abbrev c_Re_init : ByteArray := prog_5_method_1_code
def y_Re_init : MethodName := ⟨"PotentialBench$Reader", "<init>", "([LPotentialBench$Body;)V"⟩
theorem wc_Re_init : Cond.code y_Re_init c_Re_init 2 none ∈ gt := gt_i 182 (by decide +kernel) (by decide +kernel)
abbrev c_Ru_init : ByteArray := prog_6_method_1_code
def y_Ru_init : MethodName := ⟨"PotentialBench$Runner", "<init>", "([LPotentialBench$Body;)V"⟩
theorem wc_Ru_init : Cond.code y_Ru_init c_Ru_init 2 none ∈ gt := gt_i 205 (by decide +kernel) (by decide +kernel)
abbrev c_Ne_init : ByteArray := prog_4_method_1_code
def y_Ne_init : MethodName := ⟨"PotentialBench$Needs", "<init>", "([LPotentialBench$Body;)V"⟩
theorem wc_Ne_init : Cond.code y_Ne_init c_Ne_init 2 none ∈ gt := gt_i 251 (by decide +kernel) (by decide +kernel)
abbrev c_PB_function : ByteArray := prog_1_method_2_code
def y_PB_function : MethodName := ⟨"PotentialBench", "function", "(I)I"⟩
theorem wc_PB_function : Cond.code y_PB_function c_PB_function 2 (some .int) ∈ gt := gt_i 329 (by decide +kernel) (by decide +kernel)
abbrev c_PB_word : ByteArray := prog_1_method_3_code
def y_PB_word : MethodName := ⟨"PotentialBench", "word", "(II)I"⟩
theorem wc_PB_word : Cond.code y_PB_word c_PB_word 4 (some .int) ∈ gt := gt_i 333 (by decide +kernel) (by decide +kernel)
abbrev c_PB_isFunction : ByteArray := prog_1_method_15_code
def y_PB_isFunction : MethodName := ⟨"PotentialBench", "isFunction", "(I)Z"⟩
theorem wc_PB_isFunction : Cond.code y_PB_isFunction c_PB_isFunction 2 (some .boolean) ∈ gt := gt_i 337 (by decide +kernel) (by decide +kernel)
abbrev c_PB_cut : ByteArray := prog_1_method_4_code
def y_PB_cut : MethodName := ⟨"PotentialBench", "cut", "(II)Z"⟩
theorem wc_PB_cut : Cond.code y_PB_cut c_PB_cut 3 (some .boolean) ∈ gt := gt_i 341 (by decide +kernel) (by decide +kernel)
abbrev c_PB_look : ByteArray := prog_1_method_5_code
def y_PB_look : MethodName := ⟨"PotentialBench", "look", "()I"⟩
theorem wc_PB_look : Cond.code y_PB_look c_PB_look 2 (some .int) ∈ gt := gt_i 345 (by decide +kernel) (by decide +kernel)
abbrev c_PB_firstWrong : ByteArray := prog_1_method_18_code
def y_PB_firstWrong : MethodName := ⟨"PotentialBench", "firstWrong", "()I"⟩
theorem wc_PB_firstWrong : Cond.code y_PB_firstWrong c_PB_firstWrong 2 (some .int) ∈ gt := gt_i 349 (by decide +kernel) (by decide +kernel)
abbrev c_Re_isRight : ByteArray := prog_5_method_2_code
def y_Re_isRight : MethodName := ⟨"PotentialBench$Reader", "isRight", "(II)Z"⟩
theorem wc_Re_isRight : Cond.code y_Re_isRight c_Re_isRight 3 (some .boolean) ∈ gt := gt_i 353 (by decide +kernel) (by decide +kernel)
abbrev c_Re_expression : ByteArray := prog_5_method_3_code
def y_Re_expression : MethodName := ⟨"PotentialBench$Reader", "expression", "(II)I"⟩
theorem wc_Re_expression : Cond.code y_Re_expression c_Re_expression 5 (some .int) ∈ gt := gt_i 357 (by decide +kernel) (by decide +kernel)
abbrev c_Re_number : ByteArray := prog_5_method_7_code
def y_Re_number : MethodName := ⟨"PotentialBench$Reader", "number", "(II)I"⟩
theorem wc_Re_number : Cond.code y_Re_number c_Re_number 3 (some .int) ∈ gt := gt_i 361 (by decide +kernel) (by decide +kernel)
abbrev c_Bo_begin : ByteArray := prog_3_method_2_code
def y_Bo_begin : MethodName := ⟨"PotentialBench$Body", "begin", "(II)I"⟩
theorem wc_Bo_begin : Cond.code y_Bo_begin c_Bo_begin 4 (some .int) ∈ gt := gt_i 365 (by decide +kernel) (by decide +kernel)
abbrev c_Re_variable : ByteArray := prog_5_method_6_code
def y_Re_variable : MethodName := ⟨"PotentialBench$Reader", "variable", "(I)V"⟩
theorem wc_Re_variable : Cond.code y_Re_variable c_Re_variable 3 none ∈ gt := gt_i 369 (by decide +kernel) (by decide +kernel)
abbrev c_Re_parts : ByteArray := prog_5_method_4_code
def y_Re_parts : MethodName := ⟨"PotentialBench$Reader", "parts", "(IIZ)V"⟩
theorem wc_Re_parts : Cond.code y_Re_parts c_Re_parts 6 none ∈ gt := gt_i 373 (by decide +kernel) (by decide +kernel)
abbrev c_Re_call : ByteArray := prog_5_method_5_code
def y_Re_call : MethodName := ⟨"PotentialBench$Reader", "call", "(I)V"⟩
theorem wc_Re_call : Cond.code y_Re_call c_Re_call 4 none ∈ gt := gt_i 377 (by decide +kernel) (by decide +kernel)
abbrev c_PB_place : ByteArray := prog_1_method_6_code
def y_PB_place : MethodName := ⟨"PotentialBench", "place", "()I"⟩
theorem wc_PB_place : Cond.code y_PB_place c_PB_place 1 (some .int) ∈ gt := gt_i 381 (by decide +kernel) (by decide +kernel)
abbrev c_PB_run : ByteArray := prog_1_method_7_code
def y_PB_run : MethodName := ⟨"PotentialBench", "run", "(IIII)I"⟩
theorem wc_PB_run : Cond.code y_PB_run c_PB_run 5 (some .int) ∈ gt := gt_i 385 (by decide +kernel) (by decide +kernel)
abbrev c_PB_areLengths : ByteArray := prog_1_method_16_code
def y_PB_areLengths : MethodName := ⟨"PotentialBench", "areLengths", "(IIII)Z"⟩
theorem wc_PB_areLengths : Cond.code y_PB_areLengths c_PB_areLengths 4 (some .boolean) ∈ gt := gt_i 388 (by decide +kernel) (by decide +kernel)
abbrev c_PB_isLength : ByteArray := prog_1_method_17_code
def y_PB_isLength : MethodName := ⟨"PotentialBench", "isLength", "(I)Z"⟩
theorem wc_PB_isLength : Cond.code y_PB_isLength c_PB_isLength 1 (some .boolean) ∈ gt := gt_i 391 (by decide +kernel) (by decide +kernel)
abbrev c_Ru_start : ByteArray := prog_6_method_2_code
def y_Ru_start : MethodName := ⟨"PotentialBench$Runner", "start", "(IIII)V"⟩
theorem wc_Ru_start : Cond.code y_Ru_start c_Ru_start 5 none ∈ gt := gt_i 395 (by decide +kernel) (by decide +kernel)
abbrev c_Ru_open : ByteArray := prog_6_method_7_code
def y_Ru_open : MethodName := ⟨"PotentialBench$Runner", "open", "(I)V"⟩
theorem wc_Ru_open : Cond.code y_Ru_open c_Ru_open 2 none ∈ gt := gt_i 399 (by decide +kernel) (by decide +kernel)
abbrev c_Ru_finish : ByteArray := prog_6_method_3_code
def y_Ru_finish : MethodName := ⟨"PotentialBench$Runner", "finish", "()Z"⟩
theorem wc_Ru_finish : Cond.code y_Ru_finish c_Ru_finish 2 (some .boolean) ∈ gt := gt_i 403 (by decide +kernel) (by decide +kernel)
abbrev c_Ru_reachLength : ByteArray := prog_6_method_4_code
def y_Ru_reachLength : MethodName := ⟨"PotentialBench$Runner", "reachLength", "()Z"⟩
theorem wc_Ru_reachLength : Cond.code y_Ru_reachLength c_Ru_reachLength 4 (some .boolean) ∈ gt := gt_i 407 (by decide +kernel) (by decide +kernel)
abbrev c_Bo_kind : ByteArray := prog_3_method_3_code
def y_Bo_kind : MethodName := ⟨"PotentialBench$Body", "kind", "(I)I"⟩
theorem wc_Bo_kind : Cond.code y_Bo_kind c_Bo_kind 2 (some .int) ∈ gt := gt_i 411 (by decide +kernel) (by decide +kernel)
abbrev c_Bo_operand : ByteArray := prog_3_method_4_code
def y_Bo_operand : MethodName := ⟨"PotentialBench$Body", "operand", "(I)I"⟩
theorem wc_Bo_operand : Cond.code y_Bo_operand c_Bo_operand 2 (some .int) ∈ gt := gt_i 415 (by decide +kernel) (by decide +kernel)
abbrev c_Ru_slot : ByteArray := prog_6_method_8_code
def y_Ru_slot : MethodName := ⟨"PotentialBench$Runner", "slot", "(I)I"⟩
theorem wc_Ru_slot : Cond.code y_Ru_slot c_Ru_slot 2 (some .int) ∈ gt := gt_i 419 (by decide +kernel) (by decide +kernel)
abbrev c_Ru_hand : ByteArray := prog_6_method_6_code
def y_Ru_hand : MethodName := ⟨"PotentialBench$Runner", "hand", "(LPotentialBench$Body;)V"⟩
theorem wc_Ru_hand : Cond.code y_Ru_hand c_Ru_hand 7 none ∈ gt := gt_i 423 (by decide +kernel) (by decide +kernel)
abbrev c_Bo_handed : ByteArray := prog_3_method_5_code
def y_Bo_handed : MethodName := ⟨"PotentialBench$Body", "handed", "(II)I"⟩
theorem wc_Bo_handed : Cond.code y_Bo_handed c_Bo_handed 3 (some .int) ∈ gt := gt_i 427 (by decide +kernel) (by decide +kernel)
abbrev c_Ru_goInside : ByteArray := prog_6_method_5_code
def y_Ru_goInside : MethodName := ⟨"PotentialBench$Runner", "goInside", "(LPotentialBench$Body;I)V"⟩
theorem wc_Ru_goInside : Cond.code y_Ru_goInside c_Ru_goInside 5 none ∈ gt := gt_i 431 (by decide +kernel) (by decide +kernel)
abbrev c_Ru_passOn : ByteArray := prog_6_method_9_code
def y_Ru_passOn : MethodName := ⟨"PotentialBench$Runner", "passOn", "()Z"⟩
theorem wc_Ru_passOn : Cond.code y_Ru_passOn c_Ru_passOn 4 (some .boolean) ∈ gt := gt_i 435 (by decide +kernel) (by decide +kernel)
abbrev c_PB_cost : ByteArray := prog_1_method_8_code
def y_PB_cost : MethodName := ⟨"PotentialBench", "cost", "()J"⟩
theorem wc_PB_cost : Cond.code y_PB_cost c_PB_cost 1 (some .long) ∈ gt := gt_i 439 (by decide +kernel) (by decide +kernel)
abbrev c_PB_given : ByteArray := prog_1_method_9_code
def y_PB_given : MethodName := ⟨"PotentialBench", "given", "()I"⟩
theorem wc_PB_given : Cond.code y_PB_given c_PB_given 1 (some .int) ∈ gt := gt_i 443 (by decide +kernel) (by decide +kernel)
abbrev c_PB_steps : ByteArray := prog_1_method_10_code
def y_PB_steps : MethodName := ⟨"PotentialBench", "steps", "()I"⟩
theorem wc_PB_steps : Cond.code y_PB_steps c_PB_steps 1 (some .int) ∈ gt := gt_i 447 (by decide +kernel) (by decide +kernel)
abbrev c_PB_bound : ByteArray := prog_1_method_11_code
def y_PB_bound : MethodName := ⟨"PotentialBench", "bound", "(I)I"⟩
theorem wc_PB_bound : Cond.code y_PB_bound c_PB_bound 2 (some .int) ∈ gt := gt_i 451 (by decide +kernel) (by decide +kernel)
abbrev c_Ne_gather : ByteArray := prog_4_method_2_code
def y_Ne_gather : MethodName := ⟨"PotentialBench$Needs", "gather", "(I)Z"⟩
theorem wc_Ne_gather : Cond.code y_Ne_gather c_Ne_gather 3 (some .boolean) ∈ gt := gt_i 455 (by decide +kernel) (by decide +kernel)
abbrev c_Ne_goThrough : ByteArray := prog_4_method_3_code
def y_Ne_goThrough : MethodName := ⟨"PotentialBench$Needs", "goThrough", "(I)V"⟩
theorem wc_Ne_goThrough : Cond.code y_Ne_goThrough c_Ne_goThrough 3 none ∈ gt := gt_i 459 (by decide +kernel) (by decide +kernel)
abbrev c_JA_fill : ByteArray := prog_16_method_103_code
def y_JA_fill : MethodName := ⟨"java/util/Arrays", "fill", "([II)V"⟩
theorem wc_JA_fill : Cond.code y_JA_fill c_JA_fill 4 none ∈ gt := gt_i 462 (by decide +kernel) (by decide +kernel)
abbrev c_Ne_bringsOf : ByteArray := prog_4_method_5_code
def y_Ne_bringsOf : MethodName := ⟨"PotentialBench$Needs", "bringsOf", "(I)I"⟩
theorem wc_Ne_bringsOf : Cond.code y_Ne_bringsOf c_Ne_bringsOf 2 (some .int) ∈ gt := gt_i 466 (by decide +kernel) (by decide +kernel)
abbrev c_Ne_paysOf : ByteArray := prog_4_method_4_code
def y_Ne_paysOf : MethodName := ⟨"PotentialBench$Needs", "paysOf", "(I)I"⟩
theorem wc_Ne_paysOf : Cond.code y_Ne_paysOf c_Ne_paysOf 2 (some .int) ∈ gt := gt_i 470 (by decide +kernel) (by decide +kernel)
abbrev c_Ne_leavesOf : ByteArray := prog_4_method_6_code
def y_Ne_leavesOf : MethodName := ⟨"PotentialBench$Needs", "leavesOf", "(I)I"⟩
theorem wc_Ne_leavesOf : Cond.code y_Ne_leavesOf c_Ne_leavesOf 2 (some .int) ∈ gt := gt_i 474 (by decide +kernel) (by decide +kernel)
abbrev c_Ne_clear : ByteArray := prog_4_method_16_code
def y_Ne_clear : MethodName := ⟨"PotentialBench$Needs", "clear", "(I)V"⟩
theorem wc_Ne_clear : Cond.code y_Ne_clear c_Ne_clear 3 none ∈ gt := gt_i 478 (by decide +kernel) (by decide +kernel)
abbrev c_Ne_sum : ByteArray := prog_4_method_15_code
def y_Ne_sum : MethodName := ⟨"PotentialBench$Needs", "sum", "(II)[I"⟩
theorem wc_Ne_sum : Cond.code y_Ne_sum c_Ne_sum 3 (some (.array .int)) ∈ gt := gt_i 482 (by decide +kernel) (by decide +kernel)
abbrev c_Ne_add : ByteArray := prog_4_method_7_code
def y_Ne_add : MethodName := ⟨"PotentialBench$Needs", "add", "(III)V"⟩
theorem wc_Ne_add : Cond.code y_Ne_add c_Ne_add 4 none ∈ gt := gt_i 486 (by decide +kernel) (by decide +kernel)
abbrev c_Ne_plus : ByteArray := prog_4_method_19_code
def y_Ne_plus : MethodName := ⟨"PotentialBench$Needs", "plus", "([I[I)V"⟩
theorem wc_Ne_plus : Cond.code y_Ne_plus c_Ne_plus 3 none ∈ gt := gt_i 491 (by decide +kernel) (by decide +kernel)
abbrev c_Ne_addBranches : ByteArray := prog_4_method_11_code
def y_Ne_addBranches : MethodName := ⟨"PotentialBench$Needs", "addBranches", "(III)V"⟩
theorem wc_Ne_addBranches : Cond.code y_Ne_addBranches c_Ne_addBranches 9 none ∈ gt := gt_i 495 (by decide +kernel) (by decide +kernel)
abbrev c_Bo_others : ByteArray := prog_3_method_6_code
def y_Bo_others : MethodName := ⟨"PotentialBench$Body", "others", "(I)I"⟩
theorem wc_Bo_others : Cond.code y_Bo_others c_Bo_others 3 (some .int) ∈ gt := gt_i 499 (by decide +kernel) (by decide +kernel)
abbrev c_JI_bitCount : ByteArray := prog_12_method_49_code
def y_JI_bitCount : MethodName := ⟨"java/lang/Integer", "bitCount", "(I)I"⟩
theorem wc_JI_bitCount : Cond.code y_JI_bitCount c_JI_bitCount 1 (some .int) ∈ gt := gt_i 503 (by decide +kernel) (by decide +kernel)
abbrev c_Ne_handDown : ByteArray := prog_4_method_14_code
def y_Ne_handDown : MethodName := ⟨"PotentialBench$Needs", "handDown", "(I)V"⟩
theorem wc_Ne_handDown : Cond.code y_Ne_handDown c_Ne_handDown 2 none ∈ gt := gt_i 510 (by decide +kernel) (by decide +kernel)
abbrev c_Ne_copy : ByteArray := prog_4_method_18_code
def y_Ne_copy : MethodName := ⟨"PotentialBench$Needs", "copy", "([I[I)V"⟩
theorem wc_Ne_copy : Cond.code y_Ne_copy c_Ne_copy 2 none ∈ gt := gt_i 513 (by decide +kernel) (by decide +kernel)
abbrev c_Ne_atLeast : ByteArray := prog_4_method_17_code
def y_Ne_atLeast : MethodName := ⟨"PotentialBench$Needs", "atLeast", "(I[I)[I"⟩
theorem wc_Ne_atLeast : Cond.code y_Ne_atLeast c_Ne_atLeast 5 (some (.array .int)) ∈ gt := gt_i 520 (by decide +kernel) (by decide +kernel)
abbrev c_Ne_coverOthers : ByteArray := prog_4_method_12_code
def y_Ne_coverOthers : MethodName := ⟨"PotentialBench$Needs", "coverOthers", "(III)V"⟩
theorem wc_Ne_coverOthers : Cond.code y_Ne_coverOthers c_Ne_coverOthers 6 none ∈ gt := gt_i 524 (by decide +kernel) (by decide +kernel)
abbrev c_Ne_needOthers : ByteArray := prog_4_method_13_code
def y_Ne_needOthers : MethodName := ⟨"PotentialBench$Needs", "needOthers", "(III)V"⟩
theorem wc_Ne_needOthers : Cond.code y_Ne_needOthers c_Ne_needOthers 6 none ∈ gt := gt_i 528 (by decide +kernel) (by decide +kernel)
abbrev c_Ne_addCall : ByteArray := prog_4_method_10_code
def y_Ne_addCall : MethodName := ⟨"PotentialBench$Needs", "addCall", "(III)V"⟩
theorem wc_Ne_addCall : Cond.code y_Ne_addCall c_Ne_addCall 8 none ∈ gt := gt_i 532 (by decide +kernel) (by decide +kernel)
abbrev c_Ne_addThen : ByteArray := prog_4_method_9_code
def y_Ne_addThen : MethodName := ⟨"PotentialBench$Needs", "addThen", "(III)V"⟩
theorem wc_Ne_addThen : Cond.code y_Ne_addThen c_Ne_addThen 5 none ∈ gt := gt_i 537 (by decide +kernel) (by decide +kernel)
abbrev c_Ne_addOnePart : ByteArray := prog_4_method_8_code
def y_Ne_addOnePart : MethodName := ⟨"PotentialBench$Needs", "addOnePart", "(III)V"⟩
theorem wc_Ne_addOnePart : Cond.code y_Ne_addOnePart c_Ne_addOnePart 5 none ∈ gt := gt_i 541 (by decide +kernel) (by decide +kernel)
abbrev c_So_load : ByteArray := prog_7_method_2_code
def y_So_load : MethodName := ⟨"PotentialBench$Solver", "load", "(LPotentialBench$Needs;II)V"⟩
theorem wc_So_load : Cond.code y_So_load c_So_load 5 none ∈ gt := gt_i 545 (by decide +kernel) (by decide +kernel)
abbrev c_Wh_set : ByteArray := prog_8_method_2_code
def y_Wh_set : MethodName := ⟨"PotentialBench$Whole", "set", "(J)V"⟩
theorem wc_Wh_set : Cond.code y_Wh_set c_Wh_set 6 none ∈ gt := gt_i 549 (by decide +kernel) (by decide +kernel)
abbrev c_JL_compare : ByteArray := prog_13_method_42_code
def y_JL_compare : MethodName := ⟨"java/lang/Long", "compare", "(JJ)I"⟩
theorem wc_JL_compare : Cond.code y_JL_compare c_JL_compare 4 (some .int) ∈ gt := gt_i 552 (by decide +kernel) (by decide +kernel)
abbrev c_Wh_trim : ByteArray := prog_8_method_23_code
def y_Wh_trim : MethodName := ⟨"PotentialBench$Whole", "trim", "(I)V"⟩
theorem wc_Wh_trim : Cond.code y_Wh_trim c_Wh_trim 2 none ∈ gt := gt_i 557 (by decide +kernel) (by decide +kernel)
abbrev c_So_cell : ByteArray := prog_7_method_5_code
def y_So_cell : MethodName := ⟨"PotentialBench$Solver", "cell", "(II)LPotentialBench$Whole;"⟩
theorem wc_So_cell : Cond.code y_So_cell c_So_cell 4 (some (.object "PotentialBench$Whole")) ∈ gt := gt_i 561 (by decide +kernel) (by decide +kernel)
abbrev c_So_canFail : ByteArray := prog_7_method_3_code
def y_So_canFail : MethodName := ⟨"PotentialBench$Solver", "canFail", "([I)Z"⟩
theorem wc_So_canFail : Cond.code y_So_canFail c_So_canFail 2 (some .boolean) ∈ gt := gt_i 564 (by decide +kernel) (by decide +kernel)
abbrev c_So_loadRow : ByteArray := prog_7_method_4_code
def y_So_loadRow : MethodName := ⟨"PotentialBench$Solver", "loadRow", "([I)V"⟩
theorem wc_So_loadRow : Cond.code y_So_loadRow c_So_loadRow 3 none ∈ gt := gt_i 568 (by decide +kernel) (by decide +kernel)
abbrev c_So_solve : ByteArray := prog_7_method_6_code
def y_So_solve : MethodName := ⟨"PotentialBench$Solver", "solve", "()Z"⟩
theorem wc_So_solve : Cond.code y_So_solve c_So_solve 4 (some .boolean) ∈ gt := gt_i 572 (by decide +kernel) (by decide +kernel)
abbrev c_So_lowestRow : ByteArray := prog_7_method_7_code
def y_So_lowestRow : MethodName := ⟨"PotentialBench$Solver", "lowestRow", "()I"⟩
theorem wc_So_lowestRow : Cond.code y_So_lowestRow c_So_lowestRow 4 (some .int) ∈ gt := gt_i 577 (by decide +kernel) (by decide +kernel)
abbrev c_Wh_sign : ByteArray := prog_8_method_5_code
def y_Wh_sign : MethodName := ⟨"PotentialBench$Whole", "sign", "()I"⟩
theorem wc_Wh_sign : Cond.code y_Wh_sign c_Wh_sign 1 (some .int) ∈ gt := gt_i 581 (by decide +kernel) (by decide +kernel)
abbrev c_Wh_compare : ByteArray := prog_8_method_9_code
def y_Wh_compare : MethodName := ⟨"PotentialBench$Whole", "compare", "(LPotentialBench$Whole;)I"⟩
theorem wc_Wh_compare : Cond.code y_Wh_compare c_Wh_compare 2 (some .int) ∈ gt := gt_i 585 (by decide +kernel) (by decide +kernel)
abbrev c_JI_compare : ByteArray := prog_12_method_40_code
def y_JI_compare : MethodName := ⟨"java/lang/Integer", "compare", "(II)I"⟩
theorem wc_JI_compare : Cond.code y_JI_compare c_JI_compare 2 (some .int) ∈ gt := gt_i 588 (by decide +kernel) (by decide +kernel)
abbrev c_Wh_compareAmount : ByteArray := prog_8_method_10_code
def y_Wh_compareAmount : MethodName := ⟨"PotentialBench$Whole", "compareAmount", "(LPotentialBench$Whole;)I"⟩
theorem wc_Wh_compareAmount : Cond.code y_Wh_compareAmount c_Wh_compareAmount 3 (some .int) ∈ gt := gt_i 592 (by decide +kernel) (by decide +kernel)
abbrev c_So_entering : ByteArray := prog_7_method_8_code
def y_So_entering : MethodName := ⟨"PotentialBench$Solver", "entering", "(I)I"⟩
theorem wc_So_entering : Cond.code y_So_entering c_So_entering 4 (some .int) ∈ gt := gt_i 596 (by decide +kernel) (by decide +kernel)
abbrev c_So_isDearer : ByteArray := prog_7_method_9_code
def y_So_isDearer : MethodName := ⟨"PotentialBench$Solver", "isDearer", "(III)Z"⟩
theorem wc_So_isDearer : Cond.code y_So_isDearer c_So_isDearer 7 (some .boolean) ∈ gt := gt_i 600 (by decide +kernel) (by decide +kernel)
abbrev c_So_compareIn : ByteArray := prog_7_method_10_code
def y_So_compareIn : MethodName := ⟨"PotentialBench$Solver", "compareIn", "(IIII)I"⟩
theorem wc_So_compareIn : Cond.code y_So_compareIn c_So_compareIn 9 (some .int) ∈ gt := gt_i 604 (by decide +kernel) (by decide +kernel)
abbrev c_Wh_isSmall : ByteArray := prog_8_method_6_code
def y_Wh_isSmall : MethodName := ⟨"PotentialBench$Whole", "isSmall", "()Z"⟩
theorem wc_Wh_isSmall : Cond.code y_Wh_isSmall c_Wh_isSmall 1 (some .boolean) ∈ gt := gt_i 608 (by decide +kernel) (by decide +kernel)
abbrev c_Wh_small : ByteArray := prog_8_method_7_code
def y_Wh_small : MethodName := ⟨"PotentialBench$Whole", "small", "()J"⟩
theorem wc_Wh_small : Cond.code y_Wh_small c_Wh_small 1 (some .long) ∈ gt := gt_i 612 (by decide +kernel) (by decide +kernel)
abbrev c_Wh_multiply : ByteArray := prog_8_method_11_code
def y_Wh_multiply : MethodName := ⟨"PotentialBench$Whole", "multiply", "(LPotentialBench$Whole;LPotentialBench$Whole;)V"⟩
theorem wc_Wh_multiply : Cond.code y_Wh_multiply c_Wh_multiply 8 none ∈ gt := gt_i 617 (by decide +kernel) (by decide +kernel)
abbrev c_Wh_room : ByteArray := prog_8_method_22_code
def y_Wh_room : MethodName := ⟨"PotentialBench$Whole", "room", "(I)V"⟩
theorem wc_Wh_room : Cond.code y_Wh_room c_Wh_room 3 none ∈ gt := gt_i 621 (by decide +kernel) (by decide +kernel)
abbrev c_JA_copyOf : ByteArray := prog_16_method_123_code
def y_JA_copyOf : MethodName := ⟨"java/util/Arrays", "copyOf", "([II)[I"⟩
theorem wc_JA_copyOf : Cond.code y_JA_copyOf c_JA_copyOf 3 (some (.array .int)) ∈ gt := gt_i 624 (by decide +kernel) (by decide +kernel)
abbrev c_JM_min : ByteArray := prog_14_method_69_code
def y_JM_min : MethodName := ⟨"java/lang/Math", "min", "(II)I"⟩
theorem wc_JM_min : Cond.code y_JM_min c_JM_min 2 (some .int) ∈ gt := gt_i 634 (by decide +kernel) (by decide +kernel)
abbrev c_So_exchange : ByteArray := prog_7_method_11_code
def y_So_exchange : MethodName := ⟨"PotentialBench$Solver", "exchange", "(II)V"⟩
theorem wc_So_exchange : Cond.code y_So_exchange c_So_exchange 8 none ∈ gt := gt_i 639 (by decide +kernel) (by decide +kernel)
abbrev c_Wh_copy : ByteArray := prog_8_method_3_code
def y_Wh_copy : MethodName := ⟨"PotentialBench$Whole", "copy", "(LPotentialBench$Whole;)V"⟩
theorem wc_Wh_copy : Cond.code y_Wh_copy c_Wh_copy 2 none ∈ gt := gt_i 643 (by decide +kernel) (by decide +kernel)
abbrev c_So_put : ByteArray := prog_7_method_12_code
def y_So_put : MethodName := ⟨"PotentialBench$Solver", "put", "(LPotentialBench$Whole;LPotentialBench$Whole;LPotentialBench$Whole;)V"⟩
theorem wc_So_put : Cond.code y_So_put c_So_put 5 none ∈ gt := gt_i 648 (by decide +kernel) (by decide +kernel)
abbrev c_Wh_subtract : ByteArray := prog_8_method_12_code
def y_Wh_subtract : MethodName := ⟨"PotentialBench$Whole", "subtract", "(LPotentialBench$Whole;)V"⟩
theorem wc_Wh_subtract : Cond.code y_Wh_subtract c_Wh_subtract 2 none ∈ gt := gt_i 652 (by decide +kernel) (by decide +kernel)
abbrev c_Wh_negate : ByteArray := prog_8_method_4_code
def y_Wh_negate : MethodName := ⟨"PotentialBench$Whole", "negate", "()V"⟩
theorem wc_Wh_negate : Cond.code y_Wh_negate c_Wh_negate 1 none ∈ gt := gt_i 657 (by decide +kernel) (by decide +kernel)
abbrev c_Wh_addAmount : ByteArray := prog_8_method_13_code
def y_Wh_addAmount : MethodName := ⟨"PotentialBench$Whole", "addAmount", "(LPotentialBench$Whole;)V"⟩
theorem wc_Wh_addAmount : Cond.code y_Wh_addAmount c_Wh_addAmount 6 none ∈ gt := gt_i 661 (by decide +kernel) (by decide +kernel)
abbrev c_Wh_digit : ByteArray := prog_8_method_15_code
def y_Wh_digit : MethodName := ⟨"PotentialBench$Whole", "digit", "(I)I"⟩
theorem wc_Wh_digit : Cond.code y_Wh_digit c_Wh_digit 2 (some .int) ∈ gt := gt_i 665 (by decide +kernel) (by decide +kernel)
abbrev c_Wh_differ : ByteArray := prog_8_method_14_code
def y_Wh_differ : MethodName := ⟨"PotentialBench$Whole", "differ", "(LPotentialBench$Whole;LPotentialBench$Whole;)V"⟩
theorem wc_Wh_differ : Cond.code y_Wh_differ c_Wh_differ 7 none ∈ gt := gt_i 669 (by decide +kernel) (by decide +kernel)
abbrev c_Wh_divide : ByteArray := prog_8_method_16_code
def y_Wh_divide : MethodName := ⟨"PotentialBench$Whole", "divide", "(LPotentialBench$Whole;LPotentialBench$Whole;LPotentialBench$Whole;)V"⟩
theorem wc_Wh_divide : Cond.code y_Wh_divide c_Wh_divide 9 none ∈ gt := gt_i 673 (by decide +kernel) (by decide +kernel)
abbrev c_Wh_divideByDigit : ByteArray := prog_8_method_17_code
def y_Wh_divideByDigit : MethodName := ⟨"PotentialBench$Whole", "divideByDigit", "(I)V"⟩
theorem wc_Wh_divideByDigit : Cond.code y_Wh_divideByDigit c_Wh_divideByDigit 5 none ∈ gt := gt_i 678 (by decide +kernel) (by decide +kernel)
abbrev c_Wh_bitsFree : ByteArray := prog_8_method_18_code
def y_Wh_bitsFree : MethodName := ⟨"PotentialBench$Whole", "bitsFree", "()I"⟩
theorem wc_Wh_bitsFree : Cond.code y_Wh_bitsFree c_Wh_bitsFree 5 (some .int) ∈ gt := gt_i 682 (by decide +kernel) (by decide +kernel)
abbrev c_Wh_shift : ByteArray := prog_8_method_19_code
def y_Wh_shift : MethodName := ⟨"PotentialBench$Whole", "shift", "(LPotentialBench$Whole;I)V"⟩
theorem wc_Wh_shift : Cond.code y_Wh_shift c_Wh_shift 6 none ∈ gt := gt_i 687 (by decide +kernel) (by decide +kernel)
abbrev c_Wh_guess : ByteArray := prog_8_method_20_code
def y_Wh_guess : MethodName := ⟨"PotentialBench$Whole", "guess", "(LPotentialBench$Whole;II)J"⟩
theorem wc_Wh_guess : Cond.code y_Wh_guess c_Wh_guess 15 (some .long) ∈ gt := gt_i 691 (by decide +kernel) (by decide +kernel)
abbrev c_Wh_takeOff : ByteArray := prog_8_method_21_code
def y_Wh_takeOff : MethodName := ⟨"PotentialBench$Whole", "takeOff", "(LPotentialBench$Whole;IIJ)J"⟩
theorem wc_Wh_takeOff : Cond.code y_Wh_takeOff c_Wh_takeOff 9 (some .long) ∈ gt := gt_i 695 (by decide +kernel) (by decide +kernel)
abbrev c_So_swapUnknowns : ByteArray := prog_7_method_13_code
def y_So_swapUnknowns : MethodName := ⟨"PotentialBench$Solver", "swapUnknowns", "(II)V"⟩
theorem wc_So_swapUnknowns : Cond.code y_So_swapUnknowns c_So_swapUnknowns 5 none ∈ gt := gt_i 701 (by decide +kernel) (by decide +kernel)
abbrev c_Be_take : ByteArray := prog_2_method_2_code
def y_Be_take : MethodName := ⟨"PotentialBench$Best", "take", "(LPotentialBench$Solver;)V"⟩
theorem wc_Be_take : Cond.code y_Be_take c_Be_take 3 none ∈ gt := gt_i 705 (by decide +kernel) (by decide +kernel)
abbrev c_So_tell : ByteArray := prog_7_method_14_code
def y_So_tell : MethodName := ⟨"PotentialBench$Solver", "tell", "(ILPotentialBench$Whole;)V"⟩
theorem wc_So_tell : Cond.code y_So_tell c_So_tell 4 none ∈ gt := gt_i 710 (by decide +kernel) (by decide +kernel)
abbrev c_PB_told : ByteArray := prog_1_method_12_code
def y_PB_told : MethodName := ⟨"PotentialBench", "told", "(I)I"⟩
theorem wc_PB_told : Cond.code y_PB_told c_PB_told 2 (some .int) ∈ gt := gt_i 714 (by decide +kernel) (by decide +kernel)
abbrev c_PB_scaled : ByteArray := prog_1_method_13_code
def y_PB_scaled : MethodName := ⟨"PotentialBench", "scaled", "(II)J"⟩
theorem wc_PB_scaled : Cond.code y_PB_scaled c_PB_scaled 3 (some .long) ∈ gt := gt_i 718 (by decide +kernel) (by decide +kernel)
abbrev c_Be_has : ByteArray := prog_2_method_3_code
def y_Be_has : MethodName := ⟨"PotentialBench$Best", "has", "(I)Z"⟩
theorem wc_Be_has : Cond.code y_Be_has c_Be_has 2 (some .boolean) ∈ gt := gt_i 722 (by decide +kernel) (by decide +kernel)
abbrev c_Be_doubled : ByteArray := prog_2_method_4_code
def y_Be_doubled : MethodName := ⟨"PotentialBench$Best", "doubled", "(II)J"⟩
theorem wc_Be_doubled : Cond.code y_Be_doubled c_Be_doubled 3 (some .long) ∈ gt := gt_i 727 (by decide +kernel) (by decide +kernel)
abbrev c_Wh_lowest : ByteArray := prog_8_method_8_code
def y_Wh_lowest : MethodName := ⟨"PotentialBench$Whole", "lowest", "()J"⟩
theorem wc_Wh_lowest : Cond.code y_Wh_lowest c_Wh_lowest 4 (some .long) ∈ gt := gt_i 734 (by decide +kernel) (by decide +kernel)
abbrev c_PB_covers : ByteArray := prog_1_method_14_code
def y_PB_covers : MethodName := ⟨"PotentialBench", "covers", "(IIIJ)I"⟩
theorem wc_PB_covers : Cond.code y_PB_covers c_PB_covers 6 (some .int) ∈ gt := gt_i 738 (by decide +kernel) (by decide +kernel)
abbrev c_Be_reaches : ByteArray := prog_2_method_5_code
def y_Be_reaches : MethodName := ⟨"PotentialBench$Best", "reaches", "(IIIJ)Z"⟩
theorem wc_Be_reaches : Cond.code y_Be_reaches c_Be_reaches 6 (some .boolean) ∈ gt := gt_i 742 (by decide +kernel) (by decide +kernel)
abbrev c_Be_addTimes : ByteArray := prog_2_method_6_code
def y_Be_addTimes : MethodName := ⟨"PotentialBench$Best", "addTimes", "(II)V"⟩
theorem wc_Be_addTimes : Cond.code y_Be_addTimes c_Be_addTimes 3 none ∈ gt := gt_i 746 (by decide +kernel) (by decide +kernel)
abbrev c_Mo_init : ByteArray := prog_10_method_1_code
def y_Mo_init : MethodName := ⟨"PotentialBenchModel", "<init>", "()V"⟩
theorem wc_Mo_init : Cond.code y_Mo_init c_Mo_init 1 none ∈ gt := gt_i 753 (by decide +kernel) (by decide +kernel)
abbrev c_Mo_function : ByteArray := prog_10_method_2_code
def y_Mo_function : MethodName := ⟨"PotentialBenchModel", "function", "(I)I"⟩
theorem wc_Mo_function : Cond.code y_Mo_function c_Mo_function 2 (some .int) ∈ gt := gt_i 946 (by decide +kernel) (by decide +kernel)
abbrev c_Mo_word : ByteArray := prog_10_method_4_code
def y_Mo_word : MethodName := ⟨"PotentialBenchModel", "word", "(II)I"⟩
theorem wc_Mo_word : Cond.code y_Mo_word c_Mo_word 3 (some .int) ∈ gt := gt_i 950 (by decide +kernel) (by decide +kernel)
abbrev c_Mo_isFunction : ByteArray := prog_10_method_3_code
def y_Mo_isFunction : MethodName := ⟨"PotentialBenchModel", "isFunction", "(I)Z"⟩
theorem wc_Mo_isFunction : Cond.code y_Mo_isFunction c_Mo_isFunction 2 (some .boolean) ∈ gt := gt_i 954 (by decide +kernel) (by decide +kernel)
abbrev c_Mo_cut : ByteArray := prog_10_method_5_code
def y_Mo_cut : MethodName := ⟨"PotentialBenchModel", "cut", "(II)Z"⟩
theorem wc_Mo_cut : Cond.code y_Mo_cut c_Mo_cut 3 (some .boolean) ∈ gt := gt_i 958 (by decide +kernel) (by decide +kernel)
abbrev c_Mo_look : ByteArray := prog_10_method_12_code
def y_Mo_look : MethodName := ⟨"PotentialBenchModel", "look", "()I"⟩
theorem wc_Mo_look : Cond.code y_Mo_look c_Mo_look 3 (some .int) ∈ gt := gt_i 962 (by decide +kernel) (by decide +kernel)
abbrev c_Mo_wrong : ByteArray := prog_10_method_9_code
def y_Mo_wrong : MethodName := ⟨"PotentialBenchModel", "wrong", "(I)I"⟩
theorem wc_Mo_wrong : Cond.code y_Mo_wrong c_Mo_wrong 7 (some .int) ∈ gt := gt_i 966 (by decide +kernel) (by decide +kernel)
abbrev c_Mo_wrongHead : ByteArray := prog_10_method_8_code
def y_Mo_wrongHead : MethodName := ⟨"PotentialBenchModel", "wrongHead", "(III)I"⟩
theorem wc_Mo_wrongHead : Cond.code y_Mo_wrongHead c_Mo_wrongHead 9 (some .int) ∈ gt := gt_i 970 (by decide +kernel) (by decide +kernel)
abbrev c_Mo_headOf : ByteArray := prog_10_method_6_code
def y_Mo_headOf : MethodName := ⟨"PotentialBenchModel", "headOf", "(II)I"⟩
theorem wc_Mo_headOf : Cond.code y_Mo_headOf c_Mo_headOf 4 (some .int) ∈ gt := gt_i 974 (by decide +kernel) (by decide +kernel)
abbrev c_Mo_close : ByteArray := prog_10_method_10_code
def y_Mo_close : MethodName := ⟨"PotentialBenchModel", "close", "(II)Z"⟩
theorem wc_Mo_close : Cond.code y_Mo_close c_Mo_close 3 (some .boolean) ∈ gt := gt_i 978 (by decide +kernel) (by decide +kernel)
abbrev c_Mo_partsOf : ByteArray := prog_10_method_7_code
def y_Mo_partsOf : MethodName := ⟨"PotentialBenchModel", "partsOf", "(I)I"⟩
theorem wc_Mo_partsOf : Cond.code y_Mo_partsOf c_Mo_partsOf 1 (some .int) ∈ gt := gt_i 981 (by decide +kernel) (by decide +kernel)
abbrev c_Mo_knownBehind : ByteArray := prog_10_method_11_code
def y_Mo_knownBehind : MethodName := ⟨"PotentialBenchModel", "knownBehind", "(I)I"⟩
theorem wc_Mo_knownBehind : Cond.code y_Mo_knownBehind c_Mo_knownBehind 4 (some .int) ∈ gt := gt_i 985 (by decide +kernel) (by decide +kernel)
abbrev c_Mo_place : ByteArray := prog_10_method_13_code
def y_Mo_place : MethodName := ⟨"PotentialBenchModel", "place", "()I"⟩
theorem wc_Mo_place : Cond.code y_Mo_place c_Mo_place 1 (some .int) ∈ gt := gt_i 989 (by decide +kernel) (by decide +kernel)
abbrev c_Mo_run : ByteArray := prog_10_method_19_code
def y_Mo_run : MethodName := ⟨"PotentialBenchModel", "run", "(IIII)I"⟩
theorem wc_Mo_run : Cond.code y_Mo_run c_Mo_run 7 (some .int) ∈ gt := gt_i 993 (by decide +kernel) (by decide +kernel)
abbrev c_Mo_isRight : ByteArray := prog_10_method_14_code
def y_Mo_isRight : MethodName := ⟨"PotentialBenchModel", "isRight", "()Z"⟩
theorem wc_Mo_isRight : Cond.code y_Mo_isRight c_Mo_isRight 3 (some .boolean) ∈ gt := gt_i 997 (by decide +kernel) (by decide +kernel)
abbrev c_Mo_enter : ByteArray := prog_10_method_16_code
def y_Mo_enter : MethodName := ⟨"PotentialBenchModel", "enter", "(II)V"⟩
theorem wc_Mo_enter : Cond.code y_Mo_enter c_Mo_enter 3 none ∈ gt := gt_i 1001 (by decide +kernel) (by decide +kernel)
abbrev c_Mo_beginOne : ByteArray := prog_10_method_17_code
def y_Mo_beginOne : MethodName := ⟨"PotentialBenchModel", "beginOne", "()V"⟩
theorem wc_Mo_beginOne : Cond.code y_Mo_beginOne c_Mo_beginOne 6 none ∈ gt := gt_i 1005 (by decide +kernel) (by decide +kernel)
abbrev c_Mo_wait : ByteArray := prog_10_method_15_code
def y_Mo_wait : MethodName := ⟨"PotentialBenchModel", "wait", "(II)V"⟩
theorem wc_Mo_wait : Cond.code y_Mo_wait c_Mo_wait 3 none ∈ gt := gt_i 1009 (by decide +kernel) (by decide +kernel)
abbrev c_Mo_giveOn : ByteArray := prog_10_method_18_code
def y_Mo_giveOn : MethodName := ⟨"PotentialBenchModel", "giveOn", "()V"⟩
theorem wc_Mo_giveOn : Cond.code y_Mo_giveOn c_Mo_giveOn 1 none ∈ gt := gt_i 1013 (by decide +kernel) (by decide +kernel)
abbrev c_Mo_cost : ByteArray := prog_10_method_20_code
def y_Mo_cost : MethodName := ⟨"PotentialBenchModel", "cost", "()J"⟩
theorem wc_Mo_cost : Cond.code y_Mo_cost c_Mo_cost 1 (some .long) ∈ gt := gt_i 1017 (by decide +kernel) (by decide +kernel)
abbrev c_Mo_given : ByteArray := prog_10_method_21_code
def y_Mo_given : MethodName := ⟨"PotentialBenchModel", "given", "()I"⟩
theorem wc_Mo_given : Cond.code y_Mo_given c_Mo_given 1 (some .int) ∈ gt := gt_i 1021 (by decide +kernel) (by decide +kernel)
abbrev c_Mo_steps : ByteArray := prog_10_method_22_code
def y_Mo_steps : MethodName := ⟨"PotentialBenchModel", "steps", "()I"⟩
theorem wc_Mo_steps : Cond.code y_Mo_steps c_Mo_steps 1 (some .int) ∈ gt := gt_i 1025 (by decide +kernel) (by decide +kernel)
abbrev c_Mo_bound : ByteArray := prog_10_method_70_code
def y_Mo_bound : MethodName := ⟨"PotentialBenchModel", "bound", "(I)I"⟩
theorem wc_Mo_bound : Cond.code y_Mo_bound c_Mo_bound 3 (some .int) ∈ gt := gt_i 1029 (by decide +kernel) (by decide +kernel)
abbrev c_Mo_needBody : ByteArray := prog_10_method_43_code
def y_Mo_needBody : MethodName := ⟨"PotentialBenchModel", "needBody", "(I)V"⟩
theorem wc_Mo_needBody : Cond.code y_Mo_needBody c_Mo_needBody 4 none ∈ gt := gt_i 1033 (by decide +kernel) (by decide +kernel)
abbrev c_Mo_line : ByteArray := prog_10_method_23_code
def y_Mo_line : MethodName := ⟨"PotentialBenchModel", "line", "(II)I"⟩
theorem wc_Mo_line : Cond.code y_Mo_line c_Mo_line 2 (some .int) ∈ gt := gt_i 1036 (by decide +kernel) (by decide +kernel)
abbrev c_Mo_clear : ByteArray := prog_10_method_25_code
def y_Mo_clear : MethodName := ⟨"PotentialBenchModel", "clear", "(I)V"⟩
theorem wc_Mo_clear : Cond.code y_Mo_clear c_Mo_clear 3 none ∈ gt := gt_i 1040 (by decide +kernel) (by decide +kernel)
abbrev c_Mo_unknown : ByteArray := prog_10_method_30_code
def y_Mo_unknown : MethodName := ⟨"PotentialBenchModel", "unknown", "(II)I"⟩
theorem wc_Mo_unknown : Cond.code y_Mo_unknown c_Mo_unknown 3 (some .int) ∈ gt := gt_i 1044 (by decide +kernel) (by decide +kernel)
abbrev c_Mo_needOf : ByteArray := prog_10_method_40_code
def y_Mo_needOf : MethodName := ⟨"PotentialBenchModel", "needOf", "(III)I"⟩
theorem wc_Mo_needOf : Cond.code y_Mo_needOf c_Mo_needOf 6 (some .int) ∈ gt := gt_i 1048 (by decide +kernel) (by decide +kernel)
abbrev c_Mo_openNeed : ByteArray := prog_10_method_35_code
def y_Mo_openNeed : MethodName := ⟨"PotentialBenchModel", "openNeed", "(IIII)V"⟩
theorem wc_Mo_openNeed : Cond.code y_Mo_openNeed c_Mo_openNeed 5 none ∈ gt := gt_i 1052 (by decide +kernel) (by decide +kernel)
abbrev c_Mo_newBlock : ByteArray := prog_10_method_33_code
def y_Mo_newBlock : MethodName := ⟨"PotentialBenchModel", "newBlock", "(II)I"⟩
theorem wc_Mo_newBlock : Cond.code y_Mo_newBlock c_Mo_newBlock 5 (some .int) ∈ gt := gt_i 1056 (by decide +kernel) (by decide +kernel)
abbrev c_Mo_copy : ByteArray := prog_10_method_24_code
def y_Mo_copy : MethodName := ⟨"PotentialBenchModel", "copy", "(II)V"⟩
theorem wc_Mo_copy : Cond.code y_Mo_copy c_Mo_copy 4 none ∈ gt := gt_i 1060 (by decide +kernel) (by decide +kernel)
abbrev c_Mo_firstOf : ByteArray := prog_10_method_36_code
def y_Mo_firstOf : MethodName := ⟨"PotentialBenchModel", "firstOf", "(IIII)V"⟩
theorem wc_Mo_firstOf : Cond.code y_Mo_firstOf c_Mo_firstOf 8 none ∈ gt := gt_i 1064 (by decide +kernel) (by decide +kernel)
abbrev c_Mo_add : ByteArray := prog_10_method_26_code
def y_Mo_add : MethodName := ⟨"PotentialBenchModel", "add", "(II)V"⟩
theorem wc_Mo_add : Cond.code y_Mo_add c_Mo_add 4 none ∈ gt := gt_i 1068 (by decide +kernel) (by decide +kernel)
abbrev c_Mo_needCall : ByteArray := prog_10_method_41_code
def y_Mo_needCall : MethodName := ⟨"PotentialBenchModel", "needCall", "(III)V"⟩
theorem wc_Mo_needCall : Cond.code y_Mo_needCall c_Mo_needCall 7 none ∈ gt := gt_i 1072 (by decide +kernel) (by decide +kernel)
abbrev c_Mo_newUnknown : ByteArray := prog_10_method_27_code
def y_Mo_newUnknown : MethodName := ⟨"PotentialBenchModel", "newUnknown", "()I"⟩
theorem wc_Mo_newUnknown : Cond.code y_Mo_newUnknown c_Mo_newUnknown 1 (some .int) ∈ gt := gt_i 1076 (by decide +kernel) (by decide +kernel)
abbrev c_Mo_newCondition : ByteArray := prog_10_method_28_code
def y_Mo_newCondition : MethodName := ⟨"PotentialBenchModel", "newCondition", "()I"⟩
theorem wc_Mo_newCondition : Cond.code y_Mo_newCondition c_Mo_newCondition 3 (some .int) ∈ gt := gt_i 1080 (by decide +kernel) (by decide +kernel)
abbrev c_Mo_take : ByteArray := prog_10_method_29_code
def y_Mo_take : MethodName := ⟨"PotentialBenchModel", "take", "(II)V"⟩
theorem wc_Mo_take : Cond.code y_Mo_take c_Mo_take 4 none ∈ gt := gt_i 1084 (by decide +kernel) (by decide +kernel)
abbrev c_Mo_atLeast : ByteArray := prog_10_method_31_code
def y_Mo_atLeast : MethodName := ⟨"PotentialBenchModel", "atLeast", "(II)V"⟩
theorem wc_Mo_atLeast : Cond.code y_Mo_atLeast c_Mo_atLeast 4 none ∈ gt := gt_i 1088 (by decide +kernel) (by decide +kernel)
abbrev c_Mo_endNeed : ByteArray := prog_10_method_37_code
def y_Mo_endNeed : MethodName := ⟨"PotentialBenchModel", "endNeed", "()V"⟩
theorem wc_Mo_endNeed : Cond.code y_Mo_endNeed c_Mo_endNeed 1 none ∈ gt := gt_i 1092 (by decide +kernel) (by decide +kernel)
abbrev c_Mo_secondOf : ByteArray := prog_10_method_38_code
def y_Mo_secondOf : MethodName := ⟨"PotentialBenchModel", "secondOf", "(IIII)V"⟩
theorem wc_Mo_secondOf : Cond.code y_Mo_secondOf c_Mo_secondOf 7 none ∈ gt := gt_i 1096 (by decide +kernel) (by decide +kernel)
abbrev c_Mo_keepAll : ByteArray := prog_10_method_34_code
def y_Mo_keepAll : MethodName := ⟨"PotentialBenchModel", "keepAll", "(II)V"⟩
theorem wc_Mo_keepAll : Cond.code y_Mo_keepAll c_Mo_keepAll 4 none ∈ gt := gt_i 1100 (by decide +kernel) (by decide +kernel)
abbrev c_Mo_thirdOf : ByteArray := prog_10_method_39_code
def y_Mo_thirdOf : MethodName := ⟨"PotentialBenchModel", "thirdOf", "(IIII)V"⟩
theorem wc_Mo_thirdOf : Cond.code y_Mo_thirdOf c_Mo_thirdOf 7 none ∈ gt := gt_i 1104 (by decide +kernel) (by decide +kernel)
abbrev c_Mo_needMatch : ByteArray := prog_10_method_42_code
def y_Mo_needMatch : MethodName := ⟨"PotentialBenchModel", "needMatch", "(IIIIII)V"⟩
theorem wc_Mo_needMatch : Cond.code y_Mo_needMatch c_Mo_needMatch 14 none ∈ gt := gt_i 1108 (by decide +kernel) (by decide +kernel)
abbrev c_Mo_isNamed : ByteArray := prog_10_method_32_code
def y_Mo_isNamed : MethodName := ⟨"PotentialBenchModel", "isNamed", "(IIII)Z"⟩
theorem wc_Mo_isNamed : Cond.code y_Mo_isNamed c_Mo_isNamed 9 (some .boolean) ∈ gt := gt_i 1112 (by decide +kernel) (by decide +kernel)
abbrev c_Mo_lay : ByteArray := prog_10_method_64_code
def y_Mo_lay : MethodName := ⟨"PotentialBenchModel", "lay", "(I)V"⟩
theorem wc_Mo_lay : Cond.code y_Mo_lay c_Mo_lay 4 none ∈ gt := gt_i 1116 (by decide +kernel) (by decide +kernel)
abbrev c_Mo_put : ByteArray := prog_10_method_58_code
def y_Mo_put : MethodName := ⟨"PotentialBenchModel", "put", "(IJ)V"⟩
theorem wc_Mo_put : Cond.code y_Mo_put c_Mo_put 7 none ∈ gt := gt_i 1120 (by decide +kernel) (by decide +kernel)
abbrev c_Mo_at : ByteArray := prog_10_method_57_code
def y_Mo_at : MethodName := ⟨"PotentialBenchModel", "at", "(II)I"⟩
theorem wc_Mo_at : Cond.code y_Mo_at c_Mo_at 2 (some .int) ∈ gt := gt_i 1124 (by decide +kernel) (by decide +kernel)
abbrev c_Mo_reach : ByteArray := prog_10_method_68_code
def y_Mo_reach : MethodName := ⟨"PotentialBenchModel", "reach", "()Z"⟩
theorem wc_Mo_reach : Cond.code y_Mo_reach c_Mo_reach 5 (some .boolean) ∈ gt := gt_i 1128 (by decide +kernel) (by decide +kernel)
abbrev c_Mo_exchange : ByteArray := prog_10_method_61_code
def y_Mo_exchange : MethodName := ⟨"PotentialBenchModel", "exchange", "(II)V"⟩
theorem wc_Mo_exchange : Cond.code y_Mo_exchange c_Mo_exchange 6 none ∈ gt := gt_i 1132 (by decide +kernel) (by decide +kernel)
abbrev c_Mo_signOf : ByteArray := prog_10_method_59_code
def y_Mo_signOf : MethodName := ⟨"PotentialBenchModel", "signOf", "(I)I"⟩
theorem wc_Mo_signOf : Cond.code y_Mo_signOf c_Mo_signOf 2 (some .int) ∈ gt := gt_i 1136 (by decide +kernel) (by decide +kernel)
abbrev c_Mo_rowBy : ByteArray := prog_10_method_63_code
def y_Mo_rowBy : MethodName := ⟨"PotentialBenchModel", "rowBy", "(IIIZ)V"⟩
theorem wc_Mo_rowBy : Cond.code y_Mo_rowBy c_Mo_rowBy 9 none ∈ gt := gt_i 1140 (by decide +kernel) (by decide +kernel)
abbrev c_Mo_turn : ByteArray := prog_10_method_60_code
def y_Mo_turn : MethodName := ⟨"PotentialBenchModel", "turn", "(I)V"⟩
theorem wc_Mo_turn : Cond.code y_Mo_turn c_Mo_turn 2 none ∈ gt := gt_i 1144 (by decide +kernel) (by decide +kernel)
abbrev c_Mo_products : ByteArray := prog_10_method_47_code
def y_Mo_products : MethodName := ⟨"PotentialBenchModel", "products", "(IIII)V"⟩
theorem wc_Mo_products : Cond.code y_Mo_products c_Mo_products 5 none ∈ gt := gt_i 1148 (by decide +kernel) (by decide +kernel)
abbrev c_Mo_times : ByteArray := prog_10_method_44_code
def y_Mo_times : MethodName := ⟨"PotentialBenchModel", "times", "(II[I)I"⟩
theorem wc_Mo_times : Cond.code y_Mo_times c_Mo_times 14 (some .int) ∈ gt := gt_i 1152 (by decide +kernel) (by decide +kernel)
abbrev c_Mo_cut2 : ByteArray := prog_10_method_45_code
def y_Mo_cut2 : MethodName := ⟨"PotentialBenchModel", "cut", "([II)I"⟩
theorem wc_Mo_cut2 : Cond.code y_Mo_cut2 c_Mo_cut2 3 (some .int) ∈ gt := gt_i 1155 (by decide +kernel) (by decide +kernel)
abbrev c_Mo_join : ByteArray := prog_10_method_49_code
def y_Mo_join : MethodName := ⟨"PotentialBenchModel", "join", "()V"⟩
theorem wc_Mo_join : Cond.code y_Mo_join c_Mo_join 1 none ∈ gt := gt_i 1159 (by decide +kernel) (by decide +kernel)
abbrev c_Mo_addRows : ByteArray := prog_10_method_50_code
def y_Mo_addRows : MethodName := ⟨"PotentialBenchModel", "addRows", "()V"⟩
theorem wc_Mo_addRows : Cond.code y_Mo_addRows c_Mo_addRows 5 none ∈ gt := gt_i 1163 (by decide +kernel) (by decide +kernel)
abbrev c_Mo_compare : ByteArray := prog_10_method_46_code
def y_Mo_compare : MethodName := ⟨"PotentialBenchModel", "compare", "([II[II)I"⟩
theorem wc_Mo_compare : Cond.code y_Mo_compare c_Mo_compare 5 (some .int) ∈ gt := gt_i 1167 (by decide +kernel) (by decide +kernel)
abbrev c_Mo_subtract : ByteArray := prog_10_method_51_code
def y_Mo_subtract : MethodName := ⟨"PotentialBenchModel", "subtract", "([II[II[I)V"⟩
theorem wc_Mo_subtract : Cond.code y_Mo_subtract c_Mo_subtract 8 none ∈ gt := gt_i 1170 (by decide +kernel) (by decide +kernel)
abbrev c_Mo_divide : ByteArray := prog_10_method_52_code
def y_Mo_divide : MethodName := ⟨"PotentialBenchModel", "divide", "(I)V"⟩
theorem wc_Mo_divide : Cond.code y_Mo_divide c_Mo_divide 6 none ∈ gt := gt_i 1174 (by decide +kernel) (by decide +kernel)
abbrev c_Mo_shiftInto : ByteArray := prog_10_method_53_code
def y_Mo_shiftInto : MethodName := ⟨"PotentialBenchModel", "shiftInto", "(III)V"⟩
theorem wc_Mo_shiftInto : Cond.code y_Mo_shiftInto c_Mo_shiftInto 7 none ∈ gt := gt_i 1179 (by decide +kernel) (by decide +kernel)
abbrev c_Mo_raise : ByteArray := prog_10_method_54_code
def y_Mo_raise : MethodName := ⟨"PotentialBenchModel", "raise", "(I)V"⟩
theorem wc_Mo_raise : Cond.code y_Mo_raise c_Mo_raise 5 none ∈ gt := gt_i 1183 (by decide +kernel) (by decide +kernel)
abbrev c_Mo_digit : ByteArray := prog_10_method_55_code
def y_Mo_digit : MethodName := ⟨"PotentialBenchModel", "digit", "(II)I"⟩
theorem wc_Mo_digit : Cond.code y_Mo_digit c_Mo_digit 14 (some .int) ∈ gt := gt_i 1187 (by decide +kernel) (by decide +kernel)
abbrev c_Mo_keepQuotient : ByteArray := prog_10_method_56_code
def y_Mo_keepQuotient : MethodName := ⟨"PotentialBenchModel", "keepQuotient", "(IZ)V"⟩
theorem wc_Mo_keepQuotient : Cond.code y_Mo_keepQuotient c_Mo_keepQuotient 4 none ∈ gt := gt_i 1192 (by decide +kernel) (by decide +kernel)
abbrev c_Mo_swapOne : ByteArray := prog_10_method_62_code
def y_Mo_swapOne : MethodName := ⟨"PotentialBenchModel", "swapOne", "(IZ)V"⟩
theorem wc_Mo_swapOne : Cond.code y_Mo_swapOne c_Mo_swapOne 6 none ∈ gt := gt_i 1196 (by decide +kernel) (by decide +kernel)
abbrev c_Mo_coming : ByteArray := prog_10_method_67_code
def y_Mo_coming : MethodName := ⟨"PotentialBenchModel", "coming", "(II)I"⟩
theorem wc_Mo_coming : Cond.code y_Mo_coming c_Mo_coming 6 (some .int) ∈ gt := gt_i 1201 (by decide +kernel) (by decide +kernel)
abbrev c_Mo_giving : ByteArray := prog_10_method_65_code
def y_Mo_giving : MethodName := ⟨"PotentialBenchModel", "giving", "(I)I"⟩
theorem wc_Mo_giving : Cond.code y_Mo_giving c_Mo_giving 5 (some .int) ∈ gt := gt_i 1205 (by decide +kernel) (by decide +kernel)
abbrev c_Mo_shareOf : ByteArray := prog_10_method_66_code
def y_Mo_shareOf : MethodName := ⟨"PotentialBenchModel", "shareOf", "(III)I"⟩
theorem wc_Mo_shareOf : Cond.code y_Mo_shareOf c_Mo_shareOf 4 (some .int) ∈ gt := gt_i 1209 (by decide +kernel) (by decide +kernel)
abbrev c_Mo_compareProducts : ByteArray := prog_10_method_48_code
def y_Mo_compareProducts : MethodName := ⟨"PotentialBenchModel", "compareProducts", "(IIII)I"⟩
theorem wc_Mo_compareProducts : Cond.code y_Mo_compareProducts c_Mo_compareProducts 5 (some .int) ∈ gt := gt_i 1213 (by decide +kernel) (by decide +kernel)
abbrev c_Mo_improve : ByteArray := prog_10_method_69_code
def y_Mo_improve : MethodName := ⟨"PotentialBenchModel", "improve", "()V"⟩
theorem wc_Mo_improve : Cond.code y_Mo_improve c_Mo_improve 2 none ∈ gt := gt_i 1217 (by decide +kernel) (by decide +kernel)
abbrev c_Mo_told : ByteArray := prog_10_method_71_code
def y_Mo_told : MethodName := ⟨"PotentialBenchModel", "told", "(I)I"⟩
theorem wc_Mo_told : Cond.code y_Mo_told c_Mo_told 2 (some .int) ∈ gt := gt_i 1221 (by decide +kernel) (by decide +kernel)
abbrev c_Mo_scaled : ByteArray := prog_10_method_73_code
def y_Mo_scaled : MethodName := ⟨"PotentialBenchModel", "scaled", "(II)J"⟩
theorem wc_Mo_scaled : Cond.code y_Mo_scaled c_Mo_scaled 6 (some .long) ∈ gt := gt_i 1225 (by decide +kernel) (by decide +kernel)
abbrev c_Mo_boundAt : ByteArray := prog_10_method_72_code
def y_Mo_boundAt : MethodName := ⟨"PotentialBenchModel", "boundAt", "(I)I"⟩
theorem wc_Mo_boundAt : Cond.code y_Mo_boundAt c_Mo_boundAt 3 (some .int) ∈ gt := gt_i 1229 (by decide +kernel) (by decide +kernel)
abbrev c_Mo_covers : ByteArray := prog_10_method_75_code
def y_Mo_covers : MethodName := ⟨"PotentialBenchModel", "covers", "(IIIJ)I"⟩
theorem wc_Mo_covers : Cond.code y_Mo_covers c_Mo_covers 8 (some .int) ∈ gt := gt_i 1234 (by decide +kernel) (by decide +kernel)
abbrev c_Mo_sum : ByteArray := prog_10_method_74_code
def y_Mo_sum : MethodName := ⟨"PotentialBenchModel", "sum", "(IIIII)V"⟩
theorem wc_Mo_sum : Cond.code y_Mo_sum c_Mo_sum 7 none ∈ gt := gt_i 1238 (by decide +kernel) (by decide +kernel)
theorem wz_La : Cond.initialized "PotentialBenchLaw" ∈ gt := gt_i 0 (by decide +kernel) (by decide +kernel)
theorem wz_PB : Cond.initialized "PotentialBench" ∈ gt := gt_i 1 (by decide +kernel) (by decide +kernel)
theorem wz_So : Cond.initialized "PotentialBench$Solver" ∈ gt := gt_i 2 (by decide +kernel) (by decide +kernel)
theorem wz_Wh : Cond.initialized "PotentialBench$Whole" ∈ gt := gt_i 3 (by decide +kernel) (by decide +kernel)
theorem wz_Be : Cond.initialized "PotentialBench$Best" ∈ gt := gt_i 4 (by decide +kernel) (by decide +kernel)
theorem wz_Bo : Cond.initialized "PotentialBench$Body" ∈ gt := gt_i 5 (by decide +kernel) (by decide +kernel)
theorem wz_Re : Cond.initialized "PotentialBench$Reader" ∈ gt := gt_i 6 (by decide +kernel) (by decide +kernel)
theorem wz_Ru : Cond.initialized "PotentialBench$Runner" ∈ gt := gt_i 7 (by decide +kernel) (by decide +kernel)
theorem wz_Ne : Cond.initialized "PotentialBench$Needs" ∈ gt := gt_i 8 (by decide +kernel) (by decide +kernel)
theorem wz_Mo : Cond.initialized "PotentialBenchModel" ∈ gt := gt_i 9 (by decide +kernel) (by decide +kernel)
theorem wz_JA : Cond.initialized "java/util/Arrays" ∈ gt := gt_i 10 (by decide +kernel) (by decide +kernel)
theorem wz_JI : Cond.initialized "java/lang/Integer" ∈ gt := gt_i 11 (by decide +kernel) (by decide +kernel)
theorem wz_JS : Cond.initialized "java/lang/System" ∈ gt := gt_i 12 (by decide +kernel) (by decide +kernel)
theorem wz_JL : Cond.initialized "java/lang/Long" ∈ gt := gt_i 13 (by decide +kernel) (by decide +kernel)
theorem wz_JM : Cond.initialized "java/lang/Math" ∈ gt := gt_i 14 (by decide +kernel) (by decide +kernel)
theorem wl_La_7 : Cond.classLink "PotentialBenchLaw" 7 "PotentialBench" ∈ gt := gt_i 15 (by decide +kernel) (by decide +kernel)
theorem wi_PB : Cond.instantiable "PotentialBench" 9 ∈ gt := gt_i 16 (by decide +kernel) (by decide +kernel)
theorem wm_La_9 : Cond.methodLink "PotentialBenchLaw" 9 y_PB_init ∈ gt := gt_i 17 (by decide +kernel) (by decide +kernel)
theorem wn_PB_init : Cond.instanceMethod y_PB_init ∈ gt := gt_i 18 (by decide +kernel) (by decide +kernel)
theorem wm_PB_3 : Cond.methodLink "PotentialBench" 3 Lib.objectInit ∈ gt := gt_i 20 (by decide +kernel) (by decide +kernel)
theorem wn_JO_init : Cond.instanceMethod Lib.objectInit ∈ gt := gt_i 21 (by decide +kernel) (by decide +kernel)
theorem wl_PB_9 : Cond.classLink "PotentialBench" 9 "PotentialBench$Body" ∈ gt := gt_i 23 (by decide +kernel) (by decide +kernel)
theorem xa_Bo : Cond.arrayOver (.object "PotentialBench$Body") ∈ tables_1 := List.mem_of_getElem? (i := 24) (by decide +kernel)
theorem wl_PB_15 : Cond.classLink "PotentialBench" 15 "PotentialBench$Solver" ∈ gt := gt_i 25 (by decide +kernel) (by decide +kernel)
theorem wi_So : Cond.instantiable "PotentialBench$Solver" 14 ∈ gt := gt_i 26 (by decide +kernel) (by decide +kernel)
theorem xm_PB_17 : Cond.methodLinkNest "PotentialBench" 17 y_So_init "PotentialBench" ∈ tables_1 := List.mem_of_getElem? (i := 27) (by decide +kernel)
theorem wn_So_init : Cond.instanceMethod y_So_init ∈ gt := gt_i 28 (by decide +kernel) (by decide +kernel)
theorem wm_So_3 : Cond.methodLink "PotentialBench$Solver" 3 Lib.objectInit ∈ gt := gt_i 30 (by decide +kernel) (by decide +kernel)
theorem wl_So_9 : Cond.classLink "PotentialBench$Solver" 9 "PotentialBench$Whole" ∈ gt := gt_i 31 (by decide +kernel) (by decide +kernel)
theorem xa_Wh : Cond.arrayOver (.object "PotentialBench$Whole") ∈ tables_1 := List.mem_of_getElem? (i := 32) (by decide +kernel)
theorem wi_Wh : Cond.instantiable "PotentialBench$Whole" 3 ∈ gt := gt_i 33 (by decide +kernel) (by decide +kernel)
theorem wm_So_30 : Cond.methodLink "PotentialBench$Solver" 30 y_Wh_init ∈ gt := gt_i 34 (by decide +kernel) (by decide +kernel)
theorem wn_Wh_init : Cond.instanceMethod y_Wh_init ∈ gt := gt_i 35 (by decide +kernel) (by decide +kernel)
theorem wm_Wh_3 : Cond.methodLink "PotentialBench$Whole" 3 Lib.objectInit ∈ gt := gt_i 37 (by decide +kernel) (by decide +kernel)
theorem wf_Wh_9 : Cond.fieldLink "PotentialBench$Whole" 9 "PotentialBench$Whole" "digits" "[I" ∈ gt := gt_i 38 (by decide +kernel) (by decide +kernel)
theorem wf_Wh_29 : Cond.fieldLink "PotentialBench$Whole" 29 "PotentialBench$Whole" "size" "I" ∈ gt := gt_i 39 (by decide +kernel) (by decide +kernel)
theorem wf_Wh_19 : Cond.fieldLink "PotentialBench$Whole" 19 "PotentialBench$Whole" "sign" "I" ∈ gt := gt_i 40 (by decide +kernel) (by decide +kernel)
theorem wa_int : Cond.arrayClass .int ∈ gt := gt_i 48 (by decide +kernel) (by decide +kernel)
theorem wf_So_11 : Cond.fieldLink "PotentialBench$Solver" 11 "PotentialBench$Solver" "cells" "[LPotentialBench$Whole;" ∈ gt := gt_i 49 (by decide +kernel) (by decide +kernel)
theorem wf_So_17 : Cond.fieldLink "PotentialBench$Solver" 17 "PotentialBench$Solver" "rowOf" "[I" ∈ gt := gt_i 50 (by decide +kernel) (by decide +kernel)
theorem wf_So_21 : Cond.fieldLink "PotentialBench$Solver" 21 "PotentialBench$Solver" "columnOf" "[I" ∈ gt := gt_i 51 (by decide +kernel) (by decide +kernel)
theorem wf_So_24 : Cond.fieldLink "PotentialBench$Solver" 24 "PotentialBench$Solver" "unknownOfRow" "[I" ∈ gt := gt_i 52 (by decide +kernel) (by decide +kernel)
theorem wf_So_27 : Cond.fieldLink "PotentialBench$Solver" 27 "PotentialBench$Solver" "unknownOfColumn" "[I" ∈ gt := gt_i 53 (by decide +kernel) (by decide +kernel)
theorem wf_So_31 : Cond.fieldLink "PotentialBench$Solver" 31 "PotentialBench$Solver" "under" "LPotentialBench$Whole;" ∈ gt := gt_i 54 (by decide +kernel) (by decide +kernel)
theorem xf_Be_45 : Cond.fieldLinkNest "PotentialBench$Best" 45 "PotentialBench$Solver" "under" "LPotentialBench$Whole;" "PotentialBench" ∈ tables_1 := List.mem_of_getElem? (i := 55) (by decide +kernel)
theorem wf_So_35 : Cond.fieldLink "PotentialBench$Solver" 35 "PotentialBench$Solver" "pivot" "LPotentialBench$Whole;" ∈ gt := gt_i 56 (by decide +kernel) (by decide +kernel)
theorem wf_So_38 : Cond.fieldLink "PotentialBench$Solver" 38 "PotentialBench$Solver" "left" "LPotentialBench$Whole;" ∈ gt := gt_i 57 (by decide +kernel) (by decide +kernel)
theorem wf_So_41 : Cond.fieldLink "PotentialBench$Solver" 41 "PotentialBench$Solver" "right" "LPotentialBench$Whole;" ∈ gt := gt_i 58 (by decide +kernel) (by decide +kernel)
theorem wf_So_44 : Cond.fieldLink "PotentialBench$Solver" 44 "PotentialBench$Solver" "rest" "LPotentialBench$Whole;" ∈ gt := gt_i 59 (by decide +kernel) (by decide +kernel)
theorem wf_So_70 : Cond.fieldLink "PotentialBench$Solver" 70 "PotentialBench$Solver" "rows" "I" ∈ gt := gt_i 60 (by decide +kernel) (by decide +kernel)
theorem wf_So_59 : Cond.fieldLink "PotentialBench$Solver" 59 "PotentialBench$Solver" "columns" "I" ∈ gt := gt_i 61 (by decide +kernel) (by decide +kernel)
theorem wf_So_47 : Cond.fieldLink "PotentialBench$Solver" 47 "PotentialBench$Solver" "firstSought" "I" ∈ gt := gt_i 62 (by decide +kernel) (by decide +kernel)
theorem wf_So_51 : Cond.fieldLink "PotentialBench$Solver" 51 "PotentialBench$Solver" "takes" "I" ∈ gt := gt_i 63 (by decide +kernel) (by decide +kernel)
theorem xf_Be_38 : Cond.fieldLinkNest "PotentialBench$Best" 38 "PotentialBench$Solver" "takes" "I" "PotentialBench" ∈ tables_1 := List.mem_of_getElem? (i := 64) (by decide +kernel)
theorem wl_PB_22 : Cond.classLink "PotentialBench" 22 "PotentialBench$Best" ∈ gt := gt_i 94 (by decide +kernel) (by decide +kernel)
theorem wi_Be : Cond.instantiable "PotentialBench$Best" 8 ∈ gt := gt_i 95 (by decide +kernel) (by decide +kernel)
theorem xm_PB_24 : Cond.methodLinkNest "PotentialBench" 24 y_Be_init "PotentialBench" ∈ tables_1 := List.mem_of_getElem? (i := 96) (by decide +kernel)
theorem wn_Be_init : Cond.instanceMethod y_Be_init ∈ gt := gt_i 97 (by decide +kernel) (by decide +kernel)
theorem wm_Be_3 : Cond.methodLink "PotentialBench$Best" 3 Lib.objectInit ∈ gt := gt_i 99 (by decide +kernel) (by decide +kernel)
theorem wl_Be_9 : Cond.classLink "PotentialBench$Best" 9 "PotentialBench$Whole" ∈ gt := gt_i 100 (by decide +kernel) (by decide +kernel)
theorem wm_Be_17 : Cond.methodLink "PotentialBench$Best" 17 y_Wh_init ∈ gt := gt_i 101 (by decide +kernel) (by decide +kernel)
theorem wf_Be_11 : Cond.fieldLink "PotentialBench$Best" 11 "PotentialBench$Best" "parts" "[LPotentialBench$Whole;" ∈ gt := gt_i 102 (by decide +kernel) (by decide +kernel)
theorem wf_Be_18 : Cond.fieldLink "PotentialBench$Best" 18 "PotentialBench$Best" "under" "LPotentialBench$Whole;" ∈ gt := gt_i 103 (by decide +kernel) (by decide +kernel)
theorem wf_Be_22 : Cond.fieldLink "PotentialBench$Best" 22 "PotentialBench$Best" "sum" "LPotentialBench$Whole;" ∈ gt := gt_i 104 (by decide +kernel) (by decide +kernel)
theorem wf_Be_25 : Cond.fieldLink "PotentialBench$Best" 25 "PotentialBench$Best" "factor" "LPotentialBench$Whole;" ∈ gt := gt_i 105 (by decide +kernel) (by decide +kernel)
theorem wf_Be_28 : Cond.fieldLink "PotentialBench$Best" 28 "PotentialBench$Best" "product" "LPotentialBench$Whole;" ∈ gt := gt_i 106 (by decide +kernel) (by decide +kernel)
theorem wf_Be_31 : Cond.fieldLink "PotentialBench$Best" 31 "PotentialBench$Best" "rest" "LPotentialBench$Whole;" ∈ gt := gt_i 107 (by decide +kernel) (by decide +kernel)
theorem wf_Be_34 : Cond.fieldLink "PotentialBench$Best" 34 "PotentialBench$Best" "isFound" "Z" ∈ gt := gt_i 108 (by decide +kernel) (by decide +kernel)
theorem xf_PB_107 : Cond.fieldLinkNest "PotentialBench" 107 "PotentialBench$Best" "isFound" "Z" "PotentialBench" ∈ tables_1 := List.mem_of_getElem? (i := 109) (by decide +kernel)
theorem wf_Be_44 : Cond.fieldLink "PotentialBench$Best" 44 "PotentialBench$Best" "takes" "I" ∈ gt := gt_i 110 (by decide +kernel) (by decide +kernel)
theorem wi_Bo : Cond.instantiable "PotentialBench$Body" 9 ∈ gt := gt_i 128 (by decide +kernel) (by decide +kernel)
theorem xm_PB_33 : Cond.methodLinkNest "PotentialBench" 33 y_Bo_init "PotentialBench" ∈ tables_1 := List.mem_of_getElem? (i := 129) (by decide +kernel)
theorem wn_Bo_init : Cond.instanceMethod y_Bo_init ∈ gt := gt_i 130 (by decide +kernel) (by decide +kernel)
theorem wm_Bo_3 : Cond.methodLink "PotentialBench$Body" 3 Lib.objectInit ∈ gt := gt_i 132 (by decide +kernel) (by decide +kernel)
theorem wf_Bo_9 : Cond.fieldLink "PotentialBench$Body" 9 "PotentialBench$Body" "words" "[I" ∈ gt := gt_i 133 (by decide +kernel) (by decide +kernel)
theorem xf_PB_70 : Cond.fieldLinkNest "PotentialBench" 70 "PotentialBench$Body" "words" "[I" "PotentialBench" ∈ tables_1 := List.mem_of_getElem? (i := 134) (by decide +kernel)
theorem xf_Re_74 : Cond.fieldLinkNest "PotentialBench$Reader" 74 "PotentialBench$Body" "words" "[I" "PotentialBench" ∈ tables_1 := List.mem_of_getElem? (i := 135) (by decide +kernel)
theorem wf_Bo_15 : Cond.fieldLink "PotentialBench$Body" 15 "PotentialBench$Body" "start" "[I" ∈ gt := gt_i 136 (by decide +kernel) (by decide +kernel)
theorem wf_Bo_18 : Cond.fieldLink "PotentialBench$Body" 18 "PotentialBench$Body" "first" "[I" ∈ gt := gt_i 137 (by decide +kernel) (by decide +kernel)
theorem xf_Re_65 : Cond.fieldLinkNest "PotentialBench$Reader" 65 "PotentialBench$Body" "first" "[I" "PotentialBench" ∈ tables_1 := List.mem_of_getElem? (i := 138) (by decide +kernel)
theorem xf_Ru_82 : Cond.fieldLinkNest "PotentialBench$Runner" 82 "PotentialBench$Body" "first" "[I" "PotentialBench" ∈ tables_1 := List.mem_of_getElem? (i := 139) (by decide +kernel)
theorem xf_Ne_119 : Cond.fieldLinkNest "PotentialBench$Needs" 119 "PotentialBench$Body" "first" "[I" "PotentialBench" ∈ tables_1 := List.mem_of_getElem? (i := 140) (by decide +kernel)
theorem wf_Bo_21 : Cond.fieldLink "PotentialBench$Body" 21 "PotentialBench$Body" "second" "[I" ∈ gt := gt_i 141 (by decide +kernel) (by decide +kernel)
theorem xf_Re_71 : Cond.fieldLinkNest "PotentialBench$Reader" 71 "PotentialBench$Body" "second" "[I" "PotentialBench" ∈ tables_1 := List.mem_of_getElem? (i := 142) (by decide +kernel)
theorem xf_Ru_88 : Cond.fieldLinkNest "PotentialBench$Runner" 88 "PotentialBench$Body" "second" "[I" "PotentialBench" ∈ tables_1 := List.mem_of_getElem? (i := 143) (by decide +kernel)
theorem xf_Ne_125 : Cond.fieldLinkNest "PotentialBench$Needs" 125 "PotentialBench$Body" "second" "[I" "PotentialBench" ∈ tables_1 := List.mem_of_getElem? (i := 144) (by decide +kernel)
theorem wf_Bo_24 : Cond.fieldLink "PotentialBench$Body" 24 "PotentialBench$Body" "known" "[I" ∈ gt := gt_i 145 (by decide +kernel) (by decide +kernel)
theorem xf_Re_61 : Cond.fieldLinkNest "PotentialBench$Reader" 61 "PotentialBench$Body" "known" "[I" "PotentialBench" ∈ tables_1 := List.mem_of_getElem? (i := 146) (by decide +kernel)
theorem xf_Ru_85 : Cond.fieldLinkNest "PotentialBench$Runner" 85 "PotentialBench$Body" "known" "[I" "PotentialBench" ∈ tables_1 := List.mem_of_getElem? (i := 147) (by decide +kernel)
theorem xf_Ne_128 : Cond.fieldLinkNest "PotentialBench$Needs" 128 "PotentialBench$Body" "known" "[I" "PotentialBench" ∈ tables_1 := List.mem_of_getElem? (i := 148) (by decide +kernel)
theorem wf_Bo_27 : Cond.fieldLink "PotentialBench$Body" 27 "PotentialBench$Body" "named" "[I" ∈ gt := gt_i 149 (by decide +kernel) (by decide +kernel)
theorem xf_Re_68 : Cond.fieldLinkNest "PotentialBench$Reader" 68 "PotentialBench$Body" "named" "[I" "PotentialBench" ∈ tables_1 := List.mem_of_getElem? (i := 150) (by decide +kernel)
theorem xf_PB_60 : Cond.fieldLinkNest "PotentialBench" 60 "PotentialBench$Body" "takes" "I" "PotentialBench" ∈ tables_1 := List.mem_of_getElem? (i := 151) (by decide +kernel)
theorem xf_Re_34 : Cond.fieldLinkNest "PotentialBench$Reader" 34 "PotentialBench$Body" "takes" "I" "PotentialBench" ∈ tables_1 := List.mem_of_getElem? (i := 152) (by decide +kernel)
theorem xf_Ne_54 : Cond.fieldLinkNest "PotentialBench$Needs" 54 "PotentialBench$Body" "takes" "I" "PotentialBench" ∈ tables_1 := List.mem_of_getElem? (i := 153) (by decide +kernel)
theorem xf_Ru_91 : Cond.fieldLinkNest "PotentialBench$Runner" 91 "PotentialBench$Body" "takes" "I" "PotentialBench" ∈ tables_1 := List.mem_of_getElem? (i := 154) (by decide +kernel)
theorem xf_Re_41 : Cond.fieldLinkNest "PotentialBench$Reader" 41 "PotentialBench$Body" "size" "I" "PotentialBench" ∈ tables_1 := List.mem_of_getElem? (i := 155) (by decide +kernel)
theorem xf_PB_67 : Cond.fieldLinkNest "PotentialBench" 67 "PotentialBench$Body" "size" "I" "PotentialBench" ∈ tables_1 := List.mem_of_getElem? (i := 156) (by decide +kernel)
theorem wf_Bo_30 : Cond.fieldLink "PotentialBench$Body" 30 "PotentialBench$Body" "nodes" "I" ∈ gt := gt_i 157 (by decide +kernel) (by decide +kernel)
theorem xf_Re_29 : Cond.fieldLinkNest "PotentialBench$Reader" 29 "PotentialBench$Body" "nodes" "I" "PotentialBench" ∈ tables_1 := List.mem_of_getElem? (i := 158) (by decide +kernel)
theorem wl_PB_34 : Cond.classLink "PotentialBench" 34 "PotentialBench$Reader" ∈ gt := gt_i 178 (by decide +kernel) (by decide +kernel)
theorem wi_Re : Cond.instantiable "PotentialBench$Reader" 5 ∈ gt := gt_i 179 (by decide +kernel) (by decide +kernel)
theorem xm_PB_36 : Cond.methodLinkNest "PotentialBench" 36 y_Re_init "PotentialBench" ∈ tables_1 := List.mem_of_getElem? (i := 180) (by decide +kernel)
theorem wn_Re_init : Cond.instanceMethod y_Re_init ∈ gt := gt_i 181 (by decide +kernel) (by decide +kernel)
theorem wm_Re_3 : Cond.methodLink "PotentialBench$Reader" 3 Lib.objectInit ∈ gt := gt_i 183 (by decide +kernel) (by decide +kernel)
theorem wf_Re_15 : Cond.fieldLink "PotentialBench$Reader" 15 "PotentialBench$Reader" "bodies" "[LPotentialBench$Body;" ∈ gt := gt_i 184 (by decide +kernel) (by decide +kernel)
theorem wf_Re_19 : Cond.fieldLink "PotentialBench$Reader" 19 "PotentialBench$Reader" "body" "LPotentialBench$Body;" ∈ gt := gt_i 185 (by decide +kernel) (by decide +kernel)
theorem wf_Re_23 : Cond.fieldLink "PotentialBench$Reader" 23 "PotentialBench$Reader" "functions" "I" ∈ gt := gt_i 186 (by decide +kernel) (by decide +kernel)
theorem wf_Re_26 : Cond.fieldLink "PotentialBench$Reader" 26 "PotentialBench$Reader" "next" "I" ∈ gt := gt_i 187 (by decide +kernel) (by decide +kernel)
theorem wf_Re_9 : Cond.fieldLink "PotentialBench$Reader" 9 "PotentialBench$Reader" "wrong" "I" ∈ gt := gt_i 188 (by decide +kernel) (by decide +kernel)
theorem xf_PB_78 : Cond.fieldLinkNest "PotentialBench" 78 "PotentialBench$Reader" "wrong" "I" "PotentialBench" ∈ tables_1 := List.mem_of_getElem? (i := 189) (by decide +kernel)
theorem wl_PB_43 : Cond.classLink "PotentialBench" 43 "PotentialBench$Runner" ∈ gt := gt_i 201 (by decide +kernel) (by decide +kernel)
theorem wi_Ru : Cond.instantiable "PotentialBench$Runner" 12 ∈ gt := gt_i 202 (by decide +kernel) (by decide +kernel)
theorem xm_PB_45 : Cond.methodLinkNest "PotentialBench" 45 y_Ru_init "PotentialBench" ∈ tables_1 := List.mem_of_getElem? (i := 203) (by decide +kernel)
theorem wn_Ru_init : Cond.instanceMethod y_Ru_init ∈ gt := gt_i 204 (by decide +kernel) (by decide +kernel)
theorem wm_Ru_3 : Cond.methodLink "PotentialBench$Runner" 3 Lib.objectInit ∈ gt := gt_i 206 (by decide +kernel) (by decide +kernel)
theorem wf_Ru_28 : Cond.fieldLink "PotentialBench$Runner" 28 "PotentialBench$Runner" "bodies" "[LPotentialBench$Body;" ∈ gt := gt_i 207 (by decide +kernel) (by decide +kernel)
theorem wf_Ru_9 : Cond.fieldLink "PotentialBench$Runner" 9 "PotentialBench$Runner" "called" "[I" ∈ gt := gt_i 208 (by decide +kernel) (by decide +kernel)
theorem wf_Ru_15 : Cond.fieldLink "PotentialBench$Runner" 15 "PotentialBench$Runner" "lengths" "[I" ∈ gt := gt_i 209 (by decide +kernel) (by decide +kernel)
theorem wf_Ru_18 : Cond.fieldLink "PotentialBench$Runner" 18 "PotentialBench$Runner" "waits" "[I" ∈ gt := gt_i 210 (by decide +kernel) (by decide +kernel)
theorem wf_Ru_21 : Cond.fieldLink "PotentialBench$Runner" 21 "PotentialBench$Runner" "waitingBefore" "[I" ∈ gt := gt_i 211 (by decide +kernel) (by decide +kernel)
theorem wf_Ru_32 : Cond.fieldLink "PotentialBench$Runner" 32 "PotentialBench$Runner" "calls" "I" ∈ gt := gt_i 212 (by decide +kernel) (by decide +kernel)
theorem wf_Ru_35 : Cond.fieldLink "PotentialBench$Runner" 35 "PotentialBench$Runner" "waiting" "I" ∈ gt := gt_i 213 (by decide +kernel) (by decide +kernel)
theorem wf_Ru_59 : Cond.fieldLink "PotentialBench$Runner" 59 "PotentialBench$Runner" "node" "I" ∈ gt := gt_i 214 (by decide +kernel) (by decide +kernel)
theorem wf_Ru_56 : Cond.fieldLink "PotentialBench$Runner" 56 "PotentialBench$Runner" "length" "I" ∈ gt := gt_i 215 (by decide +kernel) (by decide +kernel)
theorem wf_Ru_38 : Cond.fieldLink "PotentialBench$Runner" 38 "PotentialBench$Runner" "begun" "I" ∈ gt := gt_i 216 (by decide +kernel) (by decide +kernel)
theorem xf_PB_100 : Cond.fieldLinkNest "PotentialBench" 100 "PotentialBench$Runner" "begun" "I" "PotentialBench" ∈ tables_1 := List.mem_of_getElem? (i := 217) (by decide +kernel)
theorem wf_Ru_41 : Cond.fieldLink "PotentialBench$Runner" 41 "PotentialBench$Runner" "paid" "J" ∈ gt := gt_i 218 (by decide +kernel) (by decide +kernel)
theorem xf_PB_93 : Cond.fieldLinkNest "PotentialBench" 93 "PotentialBench$Runner" "paid" "J" "PotentialBench" ∈ tables_1 := List.mem_of_getElem? (i := 219) (by decide +kernel)
theorem wf_Ru_24 : Cond.fieldLink "PotentialBench$Runner" 24 "PotentialBench$Runner" "gave" "I" ∈ gt := gt_i 220 (by decide +kernel) (by decide +kernel)
theorem xf_PB_97 : Cond.fieldLinkNest "PotentialBench" 97 "PotentialBench$Runner" "gave" "I" "PotentialBench" ∈ tables_1 := List.mem_of_getElem? (i := 221) (by decide +kernel)
theorem wl_PB_50 : Cond.classLink "PotentialBench" 50 "PotentialBench$Needs" ∈ gt := gt_i 247 (by decide +kernel) (by decide +kernel)
theorem wi_Ne : Cond.instantiable "PotentialBench$Needs" 12 ∈ gt := gt_i 248 (by decide +kernel) (by decide +kernel)
theorem xm_PB_52 : Cond.methodLinkNest "PotentialBench" 52 y_Ne_init "PotentialBench" ∈ tables_1 := List.mem_of_getElem? (i := 249) (by decide +kernel)
theorem wn_Ne_init : Cond.instanceMethod y_Ne_init ∈ gt := gt_i 250 (by decide +kernel) (by decide +kernel)
theorem wm_Ne_3 : Cond.methodLink "PotentialBench$Needs" 3 Lib.objectInit ∈ gt := gt_i 252 (by decide +kernel) (by decide +kernel)
theorem wl_Ne_15 : Cond.classLink "PotentialBench$Needs" 15 "[[I" ∈ gt := gt_i 253 (by decide +kernel) (by decide +kernel)
theorem xa_I : Cond.arrayOver (.array .int) ∈ tables_1 := List.mem_of_getElem? (i := 254) (by decide +kernel)
theorem wf_Ne_35 : Cond.fieldLink "PotentialBench$Needs" 35 "PotentialBench$Needs" "bodies" "[LPotentialBench$Body;" ∈ gt := gt_i 255 (by decide +kernel) (by decide +kernel)
theorem wf_Ne_9 : Cond.fieldLink "PotentialBench$Needs" 9 "PotentialBench$Needs" "firstOf" "[I" ∈ gt := gt_i 256 (by decide +kernel) (by decide +kernel)
theorem xf_PB_113 : Cond.fieldLinkNest "PotentialBench" 113 "PotentialBench$Needs" "firstOf" "[I" "PotentialBench" ∈ tables_1 := List.mem_of_getElem? (i := 257) (by decide +kernel)
theorem wf_Ne_17 : Cond.fieldLink "PotentialBench$Needs" 17 "PotentialBench$Needs" "conditions" "[[I" ∈ gt := gt_i 258 (by decide +kernel) (by decide +kernel)
theorem xf_So_76 : Cond.fieldLinkNest "PotentialBench$Solver" 76 "PotentialBench$Needs" "conditions" "[[I" "PotentialBench" ∈ tables_1 := List.mem_of_getElem? (i := 259) (by decide +kernel)
theorem wf_Ne_20 : Cond.fieldLink "PotentialBench$Needs" 20 "PotentialBench$Needs" "spare" "[I" ∈ gt := gt_i 260 (by decide +kernel) (by decide +kernel)
theorem wf_Ne_23 : Cond.fieldLink "PotentialBench$Needs" 23 "PotentialBench$Needs" "nothing" "[I" ∈ gt := gt_i 261 (by decide +kernel) (by decide +kernel)
theorem wf_Ne_26 : Cond.fieldLink "PotentialBench$Needs" 26 "PotentialBench$Needs" "sums" "[[I" ∈ gt := gt_i 262 (by decide +kernel) (by decide +kernel)
theorem wf_Ne_29 : Cond.fieldLink "PotentialBench$Needs" 29 "PotentialBench$Needs" "brought" "[[I" ∈ gt := gt_i 263 (by decide +kernel) (by decide +kernel)
theorem wf_Ne_32 : Cond.fieldLink "PotentialBench$Needs" 32 "PotentialBench$Needs" "besides" "[[I" ∈ gt := gt_i 264 (by decide +kernel) (by decide +kernel)
theorem wf_Ne_39 : Cond.fieldLink "PotentialBench$Needs" 39 "PotentialBench$Needs" "body" "LPotentialBench$Body;" ∈ gt := gt_i 265 (by decide +kernel) (by decide +kernel)
theorem wf_Ne_43 : Cond.fieldLink "PotentialBench$Needs" 43 "PotentialBench$Needs" "unknowns" "I" ∈ gt := gt_i 266 (by decide +kernel) (by decide +kernel)
theorem xf_So_54 : Cond.fieldLinkNest "PotentialBench$Solver" 54 "PotentialBench$Needs" "unknowns" "I" "PotentialBench" ∈ tables_1 := List.mem_of_getElem? (i := 267) (by decide +kernel)
theorem xf_PB_127 : Cond.fieldLinkNest "PotentialBench" 127 "PotentialBench$Needs" "unknowns" "I" "PotentialBench" ∈ tables_1 := List.mem_of_getElem? (i := 268) (by decide +kernel)
theorem wf_Ne_47 : Cond.fieldLink "PotentialBench$Needs" 47 "PotentialBench$Needs" "count" "I" ∈ gt := gt_i 269 (by decide +kernel) (by decide +kernel)
theorem xf_So_73 : Cond.fieldLinkNest "PotentialBench$Solver" 73 "PotentialBench$Needs" "count" "I" "PotentialBench" ∈ tables_1 := List.mem_of_getElem? (i := 270) (by decide +kernel)
theorem xf_PB_130 : Cond.fieldLinkNest "PotentialBench" 130 "PotentialBench$Needs" "count" "I" "PotentialBench" ∈ tables_1 := List.mem_of_getElem? (i := 271) (by decide +kernel)
theorem wf_Ne_50 : Cond.fieldLink "PotentialBench$Needs" 50 "PotentialBench$Needs" "isFull" "Z" ∈ gt := gt_i 272 (by decide +kernel) (by decide +kernel)
theorem wf_PB_11 : Cond.fieldLink "PotentialBench" 11 "PotentialBench" "bodies" "[LPotentialBench$Body;" ∈ gt := gt_i 298 (by decide +kernel) (by decide +kernel)
theorem wf_PB_39 : Cond.fieldLink "PotentialBench" 39 "PotentialBench" "reader" "LPotentialBench$Reader;" ∈ gt := gt_i 299 (by decide +kernel) (by decide +kernel)
theorem wf_PB_46 : Cond.fieldLink "PotentialBench" 46 "PotentialBench" "runner" "LPotentialBench$Runner;" ∈ gt := gt_i 300 (by decide +kernel) (by decide +kernel)
theorem wf_PB_53 : Cond.fieldLink "PotentialBench" 53 "PotentialBench" "needs" "LPotentialBench$Needs;" ∈ gt := gt_i 301 (by decide +kernel) (by decide +kernel)
theorem wf_PB_18 : Cond.fieldLink "PotentialBench" 18 "PotentialBench" "solver" "LPotentialBench$Solver;" ∈ gt := gt_i 302 (by decide +kernel) (by decide +kernel)
theorem wf_PB_25 : Cond.fieldLink "PotentialBench" 25 "PotentialBench" "best" "LPotentialBench$Best;" ∈ gt := gt_i 303 (by decide +kernel) (by decide +kernel)
theorem wf_PB_57 : Cond.fieldLink "PotentialBench" 57 "PotentialBench" "functions" "I" ∈ gt := gt_i 304 (by decide +kernel) (by decide +kernel)
theorem wf_PB_29 : Cond.fieldLink "PotentialBench" 29 "PotentialBench" "wrongPlace" "I" ∈ gt := gt_i 305 (by decide +kernel) (by decide +kernel)
theorem wf_PB_103 : Cond.fieldLink "PotentialBench" 103 "PotentialBench" "isTold" "Z" ∈ gt := gt_i 306 (by decide +kernel) (by decide +kernel)
theorem wm_La_13 : Cond.methodLink "PotentialBenchLaw" 13 y_PB_function ∈ gt := gt_i 326 (by decide +kernel) (by decide +kernel)
theorem wn_PB_function : Cond.instanceMethod y_PB_function ∈ gt := gt_i 327 (by decide +kernel) (by decide +kernel)
theorem ws_PB_function : Cond.selects "PotentialBench" y_PB_function y_PB_function ∈ gt := gt_i 328 (by decide +kernel) (by decide +kernel)
theorem wm_La_18 : Cond.methodLink "PotentialBenchLaw" 18 y_PB_word ∈ gt := gt_i 330 (by decide +kernel) (by decide +kernel)
theorem wn_PB_word : Cond.instanceMethod y_PB_word ∈ gt := gt_i 331 (by decide +kernel) (by decide +kernel)
theorem ws_PB_word : Cond.selects "PotentialBench" y_PB_word y_PB_word ∈ gt := gt_i 332 (by decide +kernel) (by decide +kernel)
theorem wm_PB_63 : Cond.methodLink "PotentialBench" 63 y_PB_isFunction ∈ gt := gt_i 334 (by decide +kernel) (by decide +kernel)
theorem wn_PB_isFunction : Cond.instanceMethod y_PB_isFunction ∈ gt := gt_i 336 (by decide +kernel) (by decide +kernel)
theorem wm_La_23 : Cond.methodLink "PotentialBenchLaw" 23 y_PB_cut ∈ gt := gt_i 338 (by decide +kernel) (by decide +kernel)
theorem wn_PB_cut : Cond.instanceMethod y_PB_cut ∈ gt := gt_i 339 (by decide +kernel) (by decide +kernel)
theorem ws_PB_cut : Cond.selects "PotentialBench" y_PB_cut y_PB_cut ∈ gt := gt_i 340 (by decide +kernel) (by decide +kernel)
theorem wm_La_28 : Cond.methodLink "PotentialBenchLaw" 28 y_PB_look ∈ gt := gt_i 342 (by decide +kernel) (by decide +kernel)
theorem wn_PB_look : Cond.instanceMethod y_PB_look ∈ gt := gt_i 343 (by decide +kernel) (by decide +kernel)
theorem ws_PB_look : Cond.selects "PotentialBench" y_PB_look y_PB_look ∈ gt := gt_i 344 (by decide +kernel) (by decide +kernel)
theorem wm_PB_74 : Cond.methodLink "PotentialBench" 74 y_PB_firstWrong ∈ gt := gt_i 346 (by decide +kernel) (by decide +kernel)
theorem wn_PB_firstWrong : Cond.instanceMethod y_PB_firstWrong ∈ gt := gt_i 348 (by decide +kernel) (by decide +kernel)
theorem xm_PB_149 : Cond.methodLinkNest "PotentialBench" 149 y_Re_isRight "PotentialBench" ∈ tables_1 := List.mem_of_getElem? (i := 350) (by decide +kernel)
theorem wn_Re_isRight : Cond.instanceMethod y_Re_isRight ∈ gt := gt_i 352 (by decide +kernel) (by decide +kernel)
theorem wm_Re_37 : Cond.methodLink "PotentialBench$Reader" 37 y_Re_expression ∈ gt := gt_i 354 (by decide +kernel) (by decide +kernel)
theorem wn_Re_expression : Cond.instanceMethod y_Re_expression ∈ gt := gt_i 356 (by decide +kernel) (by decide +kernel)
theorem wm_Re_44 : Cond.methodLink "PotentialBench$Reader" 44 y_Re_number ∈ gt := gt_i 358 (by decide +kernel) (by decide +kernel)
theorem wn_Re_number : Cond.instanceMethod y_Re_number ∈ gt := gt_i 360 (by decide +kernel) (by decide +kernel)
theorem xm_Re_47 : Cond.methodLinkNest "PotentialBench$Reader" 47 y_Bo_begin "PotentialBench" ∈ tables_1 := List.mem_of_getElem? (i := 362) (by decide +kernel)
theorem wn_Bo_begin : Cond.instanceMethod y_Bo_begin ∈ gt := gt_i 364 (by decide +kernel) (by decide +kernel)
theorem wm_Re_50 : Cond.methodLink "PotentialBench$Reader" 50 y_Re_variable ∈ gt := gt_i 366 (by decide +kernel) (by decide +kernel)
theorem wn_Re_variable : Cond.instanceMethod y_Re_variable ∈ gt := gt_i 368 (by decide +kernel) (by decide +kernel)
theorem wm_Re_54 : Cond.methodLink "PotentialBench$Reader" 54 y_Re_parts ∈ gt := gt_i 370 (by decide +kernel) (by decide +kernel)
theorem wn_Re_parts : Cond.instanceMethod y_Re_parts ∈ gt := gt_i 372 (by decide +kernel) (by decide +kernel)
theorem wm_Re_58 : Cond.methodLink "PotentialBench$Reader" 58 y_Re_call ∈ gt := gt_i 374 (by decide +kernel) (by decide +kernel)
theorem wn_Re_call : Cond.instanceMethod y_Re_call ∈ gt := gt_i 376 (by decide +kernel) (by decide +kernel)
theorem wm_La_33 : Cond.methodLink "PotentialBenchLaw" 33 y_PB_place ∈ gt := gt_i 378 (by decide +kernel) (by decide +kernel)
theorem wn_PB_place : Cond.instanceMethod y_PB_place ∈ gt := gt_i 379 (by decide +kernel) (by decide +kernel)
theorem ws_PB_place : Cond.selects "PotentialBench" y_PB_place y_PB_place ∈ gt := gt_i 380 (by decide +kernel) (by decide +kernel)
theorem wm_La_37 : Cond.methodLink "PotentialBenchLaw" 37 y_PB_run ∈ gt := gt_i 382 (by decide +kernel) (by decide +kernel)
theorem wn_PB_run : Cond.instanceMethod y_PB_run ∈ gt := gt_i 383 (by decide +kernel) (by decide +kernel)
theorem ws_PB_run : Cond.selects "PotentialBench" y_PB_run y_PB_run ∈ gt := gt_i 384 (by decide +kernel) (by decide +kernel)
theorem wm_PB_81 : Cond.methodLink "PotentialBench" 81 y_PB_areLengths ∈ gt := gt_i 386 (by decide +kernel) (by decide +kernel)
theorem wt_PB_areLengths : Cond.static y_PB_areLengths ∈ gt := gt_i 387 (by decide +kernel) (by decide +kernel)
theorem wm_PB_146 : Cond.methodLink "PotentialBench" 146 y_PB_isLength ∈ gt := gt_i 389 (by decide +kernel) (by decide +kernel)
theorem wt_PB_isLength : Cond.static y_PB_isLength ∈ gt := gt_i 390 (by decide +kernel) (by decide +kernel)
theorem xm_PB_85 : Cond.methodLinkNest "PotentialBench" 85 y_Ru_start "PotentialBench" ∈ tables_1 := List.mem_of_getElem? (i := 392) (by decide +kernel)
theorem wn_Ru_start : Cond.instanceMethod y_Ru_start ∈ gt := gt_i 394 (by decide +kernel) (by decide +kernel)
theorem wm_Ru_45 : Cond.methodLink "PotentialBench$Runner" 45 y_Ru_open ∈ gt := gt_i 396 (by decide +kernel) (by decide +kernel)
theorem wn_Ru_open : Cond.instanceMethod y_Ru_open ∈ gt := gt_i 398 (by decide +kernel) (by decide +kernel)
theorem xm_PB_89 : Cond.methodLinkNest "PotentialBench" 89 y_Ru_finish "PotentialBench" ∈ tables_1 := List.mem_of_getElem? (i := 400) (by decide +kernel)
theorem wn_Ru_finish : Cond.instanceMethod y_Ru_finish ∈ gt := gt_i 402 (by decide +kernel) (by decide +kernel)
theorem wm_Ru_49 : Cond.methodLink "PotentialBench$Runner" 49 y_Ru_reachLength ∈ gt := gt_i 404 (by decide +kernel) (by decide +kernel)
theorem wn_Ru_reachLength : Cond.instanceMethod y_Ru_reachLength ∈ gt := gt_i 406 (by decide +kernel) (by decide +kernel)
theorem xm_Ru_62 : Cond.methodLinkNest "PotentialBench$Runner" 62 y_Bo_kind "PotentialBench" ∈ tables_1 := List.mem_of_getElem? (i := 408) (by decide +kernel)
theorem wn_Bo_kind : Cond.instanceMethod y_Bo_kind ∈ gt := gt_i 410 (by decide +kernel) (by decide +kernel)
theorem xm_Ru_68 : Cond.methodLinkNest "PotentialBench$Runner" 68 y_Bo_operand "PotentialBench" ∈ tables_1 := List.mem_of_getElem? (i := 412) (by decide +kernel)
theorem wn_Bo_operand : Cond.instanceMethod y_Bo_operand ∈ gt := gt_i 414 (by decide +kernel) (by decide +kernel)
theorem wm_Ru_71 : Cond.methodLink "PotentialBench$Runner" 71 y_Ru_slot ∈ gt := gt_i 416 (by decide +kernel) (by decide +kernel)
theorem wn_Ru_slot : Cond.instanceMethod y_Ru_slot ∈ gt := gt_i 418 (by decide +kernel) (by decide +kernel)
theorem wm_Ru_74 : Cond.methodLink "PotentialBench$Runner" 74 y_Ru_hand ∈ gt := gt_i 420 (by decide +kernel) (by decide +kernel)
theorem wn_Ru_hand : Cond.instanceMethod y_Ru_hand ∈ gt := gt_i 422 (by decide +kernel) (by decide +kernel)
theorem xm_Ru_94 : Cond.methodLinkNest "PotentialBench$Runner" 94 y_Bo_handed "PotentialBench" ∈ tables_1 := List.mem_of_getElem? (i := 424) (by decide +kernel)
theorem wn_Bo_handed : Cond.instanceMethod y_Bo_handed ∈ gt := gt_i 426 (by decide +kernel) (by decide +kernel)
theorem wm_Ru_78 : Cond.methodLink "PotentialBench$Runner" 78 y_Ru_goInside ∈ gt := gt_i 428 (by decide +kernel) (by decide +kernel)
theorem wn_Ru_goInside : Cond.instanceMethod y_Ru_goInside ∈ gt := gt_i 430 (by decide +kernel) (by decide +kernel)
theorem wm_Ru_53 : Cond.methodLink "PotentialBench$Runner" 53 y_Ru_passOn ∈ gt := gt_i 432 (by decide +kernel) (by decide +kernel)
theorem wn_Ru_passOn : Cond.instanceMethod y_Ru_passOn ∈ gt := gt_i 434 (by decide +kernel) (by decide +kernel)
theorem wm_La_42 : Cond.methodLink "PotentialBenchLaw" 42 y_PB_cost ∈ gt := gt_i 436 (by decide +kernel) (by decide +kernel)
theorem wn_PB_cost : Cond.instanceMethod y_PB_cost ∈ gt := gt_i 437 (by decide +kernel) (by decide +kernel)
theorem ws_PB_cost : Cond.selects "PotentialBench" y_PB_cost y_PB_cost ∈ gt := gt_i 438 (by decide +kernel) (by decide +kernel)
theorem wm_La_47 : Cond.methodLink "PotentialBenchLaw" 47 y_PB_given ∈ gt := gt_i 440 (by decide +kernel) (by decide +kernel)
theorem wn_PB_given : Cond.instanceMethod y_PB_given ∈ gt := gt_i 441 (by decide +kernel) (by decide +kernel)
theorem ws_PB_given : Cond.selects "PotentialBench" y_PB_given y_PB_given ∈ gt := gt_i 442 (by decide +kernel) (by decide +kernel)
theorem wm_La_51 : Cond.methodLink "PotentialBenchLaw" 51 y_PB_steps ∈ gt := gt_i 444 (by decide +kernel) (by decide +kernel)
theorem wn_PB_steps : Cond.instanceMethod y_PB_steps ∈ gt := gt_i 445 (by decide +kernel) (by decide +kernel)
theorem ws_PB_steps : Cond.selects "PotentialBench" y_PB_steps y_PB_steps ∈ gt := gt_i 446 (by decide +kernel) (by decide +kernel)
theorem wm_La_55 : Cond.methodLink "PotentialBenchLaw" 55 y_PB_bound ∈ gt := gt_i 448 (by decide +kernel) (by decide +kernel)
theorem wn_PB_bound : Cond.instanceMethod y_PB_bound ∈ gt := gt_i 449 (by decide +kernel) (by decide +kernel)
theorem ws_PB_bound : Cond.selects "PotentialBench" y_PB_bound y_PB_bound ∈ gt := gt_i 450 (by decide +kernel) (by decide +kernel)
theorem xm_PB_110 : Cond.methodLinkNest "PotentialBench" 110 y_Ne_gather "PotentialBench" ∈ tables_1 := List.mem_of_getElem? (i := 452) (by decide +kernel)
theorem wn_Ne_gather : Cond.instanceMethod y_Ne_gather ∈ gt := gt_i 454 (by decide +kernel) (by decide +kernel)
theorem wm_Ne_59 : Cond.methodLink "PotentialBench$Needs" 59 y_Ne_goThrough ∈ gt := gt_i 456 (by decide +kernel) (by decide +kernel)
theorem wn_Ne_goThrough : Cond.instanceMethod y_Ne_goThrough ∈ gt := gt_i 458 (by decide +kernel) (by decide +kernel)
theorem wm_Ne_63 : Cond.methodLink "PotentialBench$Needs" 63 y_JA_fill ∈ gt := gt_i 460 (by decide +kernel) (by decide +kernel)
theorem wt_JA_fill : Cond.static y_JA_fill ∈ gt := gt_i 461 (by decide +kernel) (by decide +kernel)
theorem wm_Ne_69 : Cond.methodLink "PotentialBench$Needs" 69 y_Ne_bringsOf ∈ gt := gt_i 463 (by decide +kernel) (by decide +kernel)
theorem wn_Ne_bringsOf : Cond.instanceMethod y_Ne_bringsOf ∈ gt := gt_i 465 (by decide +kernel) (by decide +kernel)
theorem wm_Ne_91 : Cond.methodLink "PotentialBench$Needs" 91 y_Ne_paysOf ∈ gt := gt_i 467 (by decide +kernel) (by decide +kernel)
theorem wn_Ne_paysOf : Cond.instanceMethod y_Ne_paysOf ∈ gt := gt_i 469 (by decide +kernel) (by decide +kernel)
theorem wm_Ne_73 : Cond.methodLink "PotentialBench$Needs" 73 y_Ne_leavesOf ∈ gt := gt_i 471 (by decide +kernel) (by decide +kernel)
theorem wn_Ne_leavesOf : Cond.instanceMethod y_Ne_leavesOf ∈ gt := gt_i 473 (by decide +kernel) (by decide +kernel)
theorem wm_Ne_76 : Cond.methodLink "PotentialBench$Needs" 76 y_Ne_clear ∈ gt := gt_i 475 (by decide +kernel) (by decide +kernel)
theorem wn_Ne_clear : Cond.instanceMethod y_Ne_clear ∈ gt := gt_i 477 (by decide +kernel) (by decide +kernel)
theorem wm_Ne_83 : Cond.methodLink "PotentialBench$Needs" 83 y_Ne_sum ∈ gt := gt_i 479 (by decide +kernel) (by decide +kernel)
theorem wn_Ne_sum : Cond.instanceMethod y_Ne_sum ∈ gt := gt_i 481 (by decide +kernel) (by decide +kernel)
theorem wm_Ne_79 : Cond.methodLink "PotentialBench$Needs" 79 y_Ne_add ∈ gt := gt_i 483 (by decide +kernel) (by decide +kernel)
theorem wn_Ne_add : Cond.instanceMethod y_Ne_add ∈ gt := gt_i 485 (by decide +kernel) (by decide +kernel)
theorem xm_Ne_94 : Cond.methodLinkNest "PotentialBench$Needs" 94 y_Bo_kind "PotentialBench" ∈ tables_1 := List.mem_of_getElem? (i := 487) (by decide +kernel)
theorem xm_Ne_97 : Cond.methodLinkNest "PotentialBench$Needs" 97 y_Bo_operand "PotentialBench" ∈ tables_1 := List.mem_of_getElem? (i := 488) (by decide +kernel)
theorem wm_Ne_100 : Cond.methodLink "PotentialBench$Needs" 100 y_Ne_plus ∈ gt := gt_i 489 (by decide +kernel) (by decide +kernel)
theorem wt_Ne_plus : Cond.static y_Ne_plus ∈ gt := gt_i 490 (by decide +kernel) (by decide +kernel)
theorem wm_Ne_104 : Cond.methodLink "PotentialBench$Needs" 104 y_Ne_addBranches ∈ gt := gt_i 492 (by decide +kernel) (by decide +kernel)
theorem wn_Ne_addBranches : Cond.instanceMethod y_Ne_addBranches ∈ gt := gt_i 494 (by decide +kernel) (by decide +kernel)
theorem xm_Ne_135 : Cond.methodLinkNest "PotentialBench$Needs" 135 y_Bo_others "PotentialBench" ∈ tables_1 := List.mem_of_getElem? (i := 496) (by decide +kernel)
theorem wn_Bo_others : Cond.instanceMethod y_Bo_others ∈ gt := gt_i 498 (by decide +kernel) (by decide +kernel)
theorem wm_Bo_34 : Cond.methodLink "PotentialBench$Body" 34 y_Bo_operand ∈ gt := gt_i 500 (by decide +kernel) (by decide +kernel)
theorem wm_Ne_138 : Cond.methodLink "PotentialBench$Needs" 138 y_JI_bitCount ∈ gt := gt_i 501 (by decide +kernel) (by decide +kernel)
theorem wt_JI_bitCount : Cond.static y_JI_bitCount ∈ gt := gt_i 502 (by decide +kernel) (by decide +kernel)
theorem wk_JI_265 : Cond.constant "java/lang/Integer" 265 (1431655765) ∈ gt := gt_i 504 (by decide +kernel) (by decide +kernel)
theorem wk_JI_266 : Cond.constant "java/lang/Integer" 266 (858993459) ∈ gt := gt_i 505 (by decide +kernel) (by decide +kernel)
theorem wk_JI_267 : Cond.constant "java/lang/Integer" 267 (252645135) ∈ gt := gt_i 506 (by decide +kernel) (by decide +kernel)
theorem wm_Ne_116 : Cond.methodLink "PotentialBench$Needs" 116 y_Ne_handDown ∈ gt := gt_i 507 (by decide +kernel) (by decide +kernel)
theorem wn_Ne_handDown : Cond.instanceMethod y_Ne_handDown ∈ gt := gt_i 509 (by decide +kernel) (by decide +kernel)
theorem wm_Ne_122 : Cond.methodLink "PotentialBench$Needs" 122 y_Ne_copy ∈ gt := gt_i 511 (by decide +kernel) (by decide +kernel)
theorem wt_Ne_copy : Cond.static y_Ne_copy ∈ gt := gt_i 512 (by decide +kernel) (by decide +kernel)
theorem wm_Ne_87 : Cond.methodLink "PotentialBench$Needs" 87 y_Ne_atLeast ∈ gt := gt_i 517 (by decide +kernel) (by decide +kernel)
theorem wn_Ne_atLeast : Cond.instanceMethod y_Ne_atLeast ∈ gt := gt_i 519 (by decide +kernel) (by decide +kernel)
theorem wm_Ne_143 : Cond.methodLink "PotentialBench$Needs" 143 y_Ne_coverOthers ∈ gt := gt_i 521 (by decide +kernel) (by decide +kernel)
theorem wn_Ne_coverOthers : Cond.instanceMethod y_Ne_coverOthers ∈ gt := gt_i 523 (by decide +kernel) (by decide +kernel)
theorem wm_Ne_146 : Cond.methodLink "PotentialBench$Needs" 146 y_Ne_needOthers ∈ gt := gt_i 525 (by decide +kernel) (by decide +kernel)
theorem wn_Ne_needOthers : Cond.instanceMethod y_Ne_needOthers ∈ gt := gt_i 527 (by decide +kernel) (by decide +kernel)
theorem wm_Ne_107 : Cond.methodLink "PotentialBench$Needs" 107 y_Ne_addCall ∈ gt := gt_i 529 (by decide +kernel) (by decide +kernel)
theorem wn_Ne_addCall : Cond.instanceMethod y_Ne_addCall ∈ gt := gt_i 531 (by decide +kernel) (by decide +kernel)
theorem xm_Ne_131 : Cond.methodLinkNest "PotentialBench$Needs" 131 y_Bo_handed "PotentialBench" ∈ tables_1 := List.mem_of_getElem? (i := 533) (by decide +kernel)
theorem wm_Ne_110 : Cond.methodLink "PotentialBench$Needs" 110 y_Ne_addThen ∈ gt := gt_i 534 (by decide +kernel) (by decide +kernel)
theorem wn_Ne_addThen : Cond.instanceMethod y_Ne_addThen ∈ gt := gt_i 536 (by decide +kernel) (by decide +kernel)
theorem wm_Ne_113 : Cond.methodLink "PotentialBench$Needs" 113 y_Ne_addOnePart ∈ gt := gt_i 538 (by decide +kernel) (by decide +kernel)
theorem wn_Ne_addOnePart : Cond.instanceMethod y_Ne_addOnePart ∈ gt := gt_i 540 (by decide +kernel) (by decide +kernel)
theorem xm_PB_116 : Cond.methodLinkNest "PotentialBench" 116 y_So_load "PotentialBench" ∈ tables_1 := List.mem_of_getElem? (i := 542) (by decide +kernel)
theorem wn_So_load : Cond.instanceMethod y_So_load ∈ gt := gt_i 544 (by decide +kernel) (by decide +kernel)
theorem wm_So_62 : Cond.methodLink "PotentialBench$Solver" 62 y_Wh_set ∈ gt := gt_i 546 (by decide +kernel) (by decide +kernel)
theorem wn_Wh_set : Cond.instanceMethod y_Wh_set ∈ gt := gt_i 547 (by decide +kernel) (by decide +kernel)
theorem ws_Wh_set : Cond.selects "PotentialBench$Whole" y_Wh_set y_Wh_set ∈ gt := gt_i 548 (by decide +kernel) (by decide +kernel)
theorem wm_Wh_13 : Cond.methodLink "PotentialBench$Whole" 13 y_JL_compare ∈ gt := gt_i 550 (by decide +kernel) (by decide +kernel)
theorem wt_JL_compare : Cond.static y_JL_compare ∈ gt := gt_i 551 (by decide +kernel) (by decide +kernel)
theorem wk_Wh_23 : Cond.constantLong "PotentialBench$Whole" 23 (2147483647) ∈ gt := gt_i 553 (by decide +kernel) (by decide +kernel)
theorem wm_Wh_25 : Cond.methodLink "PotentialBench$Whole" 25 y_Wh_trim ∈ gt := gt_i 554 (by decide +kernel) (by decide +kernel)
theorem wn_Wh_trim : Cond.instanceMethod y_Wh_trim ∈ gt := gt_i 556 (by decide +kernel) (by decide +kernel)
theorem wm_So_66 : Cond.methodLink "PotentialBench$Solver" 66 y_So_cell ∈ gt := gt_i 558 (by decide +kernel) (by decide +kernel)
theorem wn_So_cell : Cond.instanceMethod y_So_cell ∈ gt := gt_i 560 (by decide +kernel) (by decide +kernel)
theorem wm_So_80 : Cond.methodLink "PotentialBench$Solver" 80 y_So_canFail ∈ gt := gt_i 562 (by decide +kernel) (by decide +kernel)
theorem wt_So_canFail : Cond.static y_So_canFail ∈ gt := gt_i 563 (by decide +kernel) (by decide +kernel)
theorem wm_So_84 : Cond.methodLink "PotentialBench$Solver" 84 y_So_loadRow ∈ gt := gt_i 565 (by decide +kernel) (by decide +kernel)
theorem wn_So_loadRow : Cond.instanceMethod y_So_loadRow ∈ gt := gt_i 567 (by decide +kernel) (by decide +kernel)
theorem xm_PB_120 : Cond.methodLinkNest "PotentialBench" 120 y_So_solve "PotentialBench" ∈ tables_1 := List.mem_of_getElem? (i := 569) (by decide +kernel)
theorem wn_So_solve : Cond.instanceMethod y_So_solve ∈ gt := gt_i 571 (by decide +kernel) (by decide +kernel)
theorem wk_So_88 : Cond.constant "PotentialBench$Solver" 88 (1000000) ∈ gt := gt_i 573 (by decide +kernel) (by decide +kernel)
theorem wm_So_89 : Cond.methodLink "PotentialBench$Solver" 89 y_So_lowestRow ∈ gt := gt_i 574 (by decide +kernel) (by decide +kernel)
theorem wn_So_lowestRow : Cond.instanceMethod y_So_lowestRow ∈ gt := gt_i 576 (by decide +kernel) (by decide +kernel)
theorem wm_So_101 : Cond.methodLink "PotentialBench$Solver" 101 y_Wh_sign ∈ gt := gt_i 578 (by decide +kernel) (by decide +kernel)
theorem wn_Wh_sign : Cond.instanceMethod y_Wh_sign ∈ gt := gt_i 579 (by decide +kernel) (by decide +kernel)
theorem ws_Wh_sign : Cond.selects "PotentialBench$Whole" y_Wh_sign y_Wh_sign ∈ gt := gt_i 580 (by decide +kernel) (by decide +kernel)
theorem wm_So_104 : Cond.methodLink "PotentialBench$Solver" 104 y_Wh_compare ∈ gt := gt_i 582 (by decide +kernel) (by decide +kernel)
theorem wn_Wh_compare : Cond.instanceMethod y_Wh_compare ∈ gt := gt_i 583 (by decide +kernel) (by decide +kernel)
theorem ws_Wh_compare : Cond.selects "PotentialBench$Whole" y_Wh_compare y_Wh_compare ∈ gt := gt_i 584 (by decide +kernel) (by decide +kernel)
theorem wm_Wh_41 : Cond.methodLink "PotentialBench$Whole" 41 y_JI_compare ∈ gt := gt_i 586 (by decide +kernel) (by decide +kernel)
theorem wt_JI_compare : Cond.static y_JI_compare ∈ gt := gt_i 587 (by decide +kernel) (by decide +kernel)
theorem wm_Wh_46 : Cond.methodLink "PotentialBench$Whole" 46 y_Wh_compareAmount ∈ gt := gt_i 589 (by decide +kernel) (by decide +kernel)
theorem wn_Wh_compareAmount : Cond.instanceMethod y_Wh_compareAmount ∈ gt := gt_i 591 (by decide +kernel) (by decide +kernel)
theorem wm_So_93 : Cond.methodLink "PotentialBench$Solver" 93 y_So_entering ∈ gt := gt_i 593 (by decide +kernel) (by decide +kernel)
theorem wn_So_entering : Cond.instanceMethod y_So_entering ∈ gt := gt_i 595 (by decide +kernel) (by decide +kernel)
theorem wm_So_108 : Cond.methodLink "PotentialBench$Solver" 108 y_So_isDearer ∈ gt := gt_i 597 (by decide +kernel) (by decide +kernel)
theorem wn_So_isDearer : Cond.instanceMethod y_So_isDearer ∈ gt := gt_i 599 (by decide +kernel) (by decide +kernel)
theorem wm_So_112 : Cond.methodLink "PotentialBench$Solver" 112 y_So_compareIn ∈ gt := gt_i 601 (by decide +kernel) (by decide +kernel)
theorem wn_So_compareIn : Cond.instanceMethod y_So_compareIn ∈ gt := gt_i 603 (by decide +kernel) (by decide +kernel)
theorem wm_So_116 : Cond.methodLink "PotentialBench$Solver" 116 y_Wh_isSmall ∈ gt := gt_i 605 (by decide +kernel) (by decide +kernel)
theorem wn_Wh_isSmall : Cond.instanceMethod y_Wh_isSmall ∈ gt := gt_i 606 (by decide +kernel) (by decide +kernel)
theorem ws_Wh_isSmall : Cond.selects "PotentialBench$Whole" y_Wh_isSmall y_Wh_isSmall ∈ gt := gt_i 607 (by decide +kernel) (by decide +kernel)
theorem wm_So_120 : Cond.methodLink "PotentialBench$Solver" 120 y_Wh_small ∈ gt := gt_i 609 (by decide +kernel) (by decide +kernel)
theorem wn_Wh_small : Cond.instanceMethod y_Wh_small ∈ gt := gt_i 610 (by decide +kernel) (by decide +kernel)
theorem ws_Wh_small : Cond.selects "PotentialBench$Whole" y_Wh_small y_Wh_small ∈ gt := gt_i 611 (by decide +kernel) (by decide +kernel)
theorem wm_So_124 : Cond.methodLink "PotentialBench$Solver" 124 y_JL_compare ∈ gt := gt_i 613 (by decide +kernel) (by decide +kernel)
theorem wm_So_129 : Cond.methodLink "PotentialBench$Solver" 129 y_Wh_multiply ∈ gt := gt_i 614 (by decide +kernel) (by decide +kernel)
theorem wn_Wh_multiply : Cond.instanceMethod y_Wh_multiply ∈ gt := gt_i 615 (by decide +kernel) (by decide +kernel)
theorem ws_Wh_multiply : Cond.selects "PotentialBench$Whole" y_Wh_multiply y_Wh_multiply ∈ gt := gt_i 616 (by decide +kernel) (by decide +kernel)
theorem wm_Wh_32 : Cond.methodLink "PotentialBench$Whole" 32 y_Wh_room ∈ gt := gt_i 618 (by decide +kernel) (by decide +kernel)
theorem wn_Wh_room : Cond.instanceMethod y_Wh_room ∈ gt := gt_i 620 (by decide +kernel) (by decide +kernel)
theorem wm_Wh_95 : Cond.methodLink "PotentialBench$Whole" 95 y_JA_copyOf ∈ gt := gt_i 622 (by decide +kernel) (by decide +kernel)
theorem wt_JA_copyOf : Cond.static y_JA_copyOf ∈ gt := gt_i 623 (by decide +kernel) (by decide +kernel)
theorem wl_JA_317 : Cond.classLink "java/util/Arrays" 317 "[I" ∈ gt := gt_i 631 (by decide +kernel) (by decide +kernel)
theorem wm_JA_304 : Cond.methodLink "java/util/Arrays" 304 y_JM_min ∈ gt := gt_i 632 (by decide +kernel) (by decide +kernel)
theorem wt_JM_min : Cond.static y_JM_min ∈ gt := gt_i 633 (by decide +kernel) (by decide +kernel)
theorem wm_So_97 : Cond.methodLink "PotentialBench$Solver" 97 y_So_exchange ∈ gt := gt_i 636 (by decide +kernel) (by decide +kernel)
theorem wn_So_exchange : Cond.instanceMethod y_So_exchange ∈ gt := gt_i 638 (by decide +kernel) (by decide +kernel)
theorem wm_So_133 : Cond.methodLink "PotentialBench$Solver" 133 y_Wh_copy ∈ gt := gt_i 640 (by decide +kernel) (by decide +kernel)
theorem wn_Wh_copy : Cond.instanceMethod y_Wh_copy ∈ gt := gt_i 641 (by decide +kernel) (by decide +kernel)
theorem ws_Wh_copy : Cond.selects "PotentialBench$Whole" y_Wh_copy y_Wh_copy ∈ gt := gt_i 642 (by decide +kernel) (by decide +kernel)
theorem wm_So_137 : Cond.methodLink "PotentialBench$Solver" 137 y_So_put ∈ gt := gt_i 645 (by decide +kernel) (by decide +kernel)
theorem wn_So_put : Cond.instanceMethod y_So_put ∈ gt := gt_i 647 (by decide +kernel) (by decide +kernel)
theorem wm_So_147 : Cond.methodLink "PotentialBench$Solver" 147 y_Wh_subtract ∈ gt := gt_i 649 (by decide +kernel) (by decide +kernel)
theorem wn_Wh_subtract : Cond.instanceMethod y_Wh_subtract ∈ gt := gt_i 650 (by decide +kernel) (by decide +kernel)
theorem ws_Wh_subtract : Cond.selects "PotentialBench$Whole" y_Wh_subtract y_Wh_subtract ∈ gt := gt_i 651 (by decide +kernel) (by decide +kernel)
theorem wm_Wh_50 : Cond.methodLink "PotentialBench$Whole" 50 y_Wh_copy ∈ gt := gt_i 653 (by decide +kernel) (by decide +kernel)
theorem wm_Wh_54 : Cond.methodLink "PotentialBench$Whole" 54 y_Wh_negate ∈ gt := gt_i 654 (by decide +kernel) (by decide +kernel)
theorem wn_Wh_negate : Cond.instanceMethod y_Wh_negate ∈ gt := gt_i 655 (by decide +kernel) (by decide +kernel)
theorem ws_Wh_negate : Cond.selects "PotentialBench$Whole" y_Wh_negate y_Wh_negate ∈ gt := gt_i 656 (by decide +kernel) (by decide +kernel)
theorem wm_Wh_57 : Cond.methodLink "PotentialBench$Whole" 57 y_Wh_addAmount ∈ gt := gt_i 658 (by decide +kernel) (by decide +kernel)
theorem wn_Wh_addAmount : Cond.instanceMethod y_Wh_addAmount ∈ gt := gt_i 660 (by decide +kernel) (by decide +kernel)
theorem wm_Wh_64 : Cond.methodLink "PotentialBench$Whole" 64 y_Wh_digit ∈ gt := gt_i 662 (by decide +kernel) (by decide +kernel)
theorem wn_Wh_digit : Cond.instanceMethod y_Wh_digit ∈ gt := gt_i 664 (by decide +kernel) (by decide +kernel)
theorem wm_Wh_60 : Cond.methodLink "PotentialBench$Whole" 60 y_Wh_differ ∈ gt := gt_i 666 (by decide +kernel) (by decide +kernel)
theorem wn_Wh_differ : Cond.instanceMethod y_Wh_differ ∈ gt := gt_i 668 (by decide +kernel) (by decide +kernel)
theorem wm_So_150 : Cond.methodLink "PotentialBench$Solver" 150 y_Wh_divide ∈ gt := gt_i 670 (by decide +kernel) (by decide +kernel)
theorem wn_Wh_divide : Cond.instanceMethod y_Wh_divide ∈ gt := gt_i 671 (by decide +kernel) (by decide +kernel)
theorem ws_Wh_divide : Cond.selects "PotentialBench$Whole" y_Wh_divide y_Wh_divide ∈ gt := gt_i 672 (by decide +kernel) (by decide +kernel)
theorem wm_Wh_68 : Cond.methodLink "PotentialBench$Whole" 68 y_Wh_set ∈ gt := gt_i 674 (by decide +kernel) (by decide +kernel)
theorem wm_Wh_72 : Cond.methodLink "PotentialBench$Whole" 72 y_Wh_divideByDigit ∈ gt := gt_i 675 (by decide +kernel) (by decide +kernel)
theorem wn_Wh_divideByDigit : Cond.instanceMethod y_Wh_divideByDigit ∈ gt := gt_i 677 (by decide +kernel) (by decide +kernel)
theorem wm_Wh_75 : Cond.methodLink "PotentialBench$Whole" 75 y_Wh_bitsFree ∈ gt := gt_i 679 (by decide +kernel) (by decide +kernel)
theorem wn_Wh_bitsFree : Cond.instanceMethod y_Wh_bitsFree ∈ gt := gt_i 681 (by decide +kernel) (by decide +kernel)
theorem wk_Wh_93 : Cond.constantLong "PotentialBench$Whole" 93 (2147483648) ∈ gt := gt_i 683 (by decide +kernel) (by decide +kernel)
theorem wm_Wh_79 : Cond.methodLink "PotentialBench$Whole" 79 y_Wh_shift ∈ gt := gt_i 684 (by decide +kernel) (by decide +kernel)
theorem wn_Wh_shift : Cond.instanceMethod y_Wh_shift ∈ gt := gt_i 686 (by decide +kernel) (by decide +kernel)
theorem wm_Wh_83 : Cond.methodLink "PotentialBench$Whole" 83 y_Wh_guess ∈ gt := gt_i 688 (by decide +kernel) (by decide +kernel)
theorem wn_Wh_guess : Cond.instanceMethod y_Wh_guess ∈ gt := gt_i 690 (by decide +kernel) (by decide +kernel)
theorem wm_Wh_87 : Cond.methodLink "PotentialBench$Whole" 87 y_Wh_takeOff ∈ gt := gt_i 692 (by decide +kernel) (by decide +kernel)
theorem wn_Wh_takeOff : Cond.instanceMethod y_Wh_takeOff ∈ gt := gt_i 694 (by decide +kernel) (by decide +kernel)
theorem wk_Wh_91 : Cond.constantLong "PotentialBench$Whole" 91 (-1) ∈ gt := gt_i 696 (by decide +kernel) (by decide +kernel)
theorem wm_So_141 : Cond.methodLink "PotentialBench$Solver" 141 y_Wh_negate ∈ gt := gt_i 697 (by decide +kernel) (by decide +kernel)
theorem wm_So_144 : Cond.methodLink "PotentialBench$Solver" 144 y_So_swapUnknowns ∈ gt := gt_i 698 (by decide +kernel) (by decide +kernel)
theorem wn_So_swapUnknowns : Cond.instanceMethod y_So_swapUnknowns ∈ gt := gt_i 700 (by decide +kernel) (by decide +kernel)
theorem xm_PB_123 : Cond.methodLinkNest "PotentialBench" 123 y_Be_take "PotentialBench" ∈ tables_1 := List.mem_of_getElem? (i := 702) (by decide +kernel)
theorem wn_Be_take : Cond.instanceMethod y_Be_take ∈ gt := gt_i 704 (by decide +kernel) (by decide +kernel)
theorem wm_Be_46 : Cond.methodLink "PotentialBench$Best" 46 y_Wh_copy ∈ gt := gt_i 706 (by decide +kernel) (by decide +kernel)
theorem xm_Be_50 : Cond.methodLinkNest "PotentialBench$Best" 50 y_So_tell "PotentialBench" ∈ tables_1 := List.mem_of_getElem? (i := 707) (by decide +kernel)
theorem wn_So_tell : Cond.instanceMethod y_So_tell ∈ gt := gt_i 709 (by decide +kernel) (by decide +kernel)
theorem wm_La_59 : Cond.methodLink "PotentialBenchLaw" 59 y_PB_told ∈ gt := gt_i 711 (by decide +kernel) (by decide +kernel)
theorem wn_PB_told : Cond.instanceMethod y_PB_told ∈ gt := gt_i 712 (by decide +kernel) (by decide +kernel)
theorem ws_PB_told : Cond.selects "PotentialBench" y_PB_told y_PB_told ∈ gt := gt_i 713 (by decide +kernel) (by decide +kernel)
theorem wm_La_63 : Cond.methodLink "PotentialBenchLaw" 63 y_PB_scaled ∈ gt := gt_i 715 (by decide +kernel) (by decide +kernel)
theorem wn_PB_scaled : Cond.instanceMethod y_PB_scaled ∈ gt := gt_i 716 (by decide +kernel) (by decide +kernel)
theorem ws_PB_scaled : Cond.selects "PotentialBench" y_PB_scaled y_PB_scaled ∈ gt := gt_i 717 (by decide +kernel) (by decide +kernel)
theorem xm_PB_133 : Cond.methodLinkNest "PotentialBench" 133 y_Be_has "PotentialBench" ∈ tables_1 := List.mem_of_getElem? (i := 719) (by decide +kernel)
theorem wn_Be_has : Cond.instanceMethod y_Be_has ∈ gt := gt_i 721 (by decide +kernel) (by decide +kernel)
theorem wk_PB_136 : Cond.constantLong "PotentialBench" 136 (-2) ∈ gt := gt_i 723 (by decide +kernel) (by decide +kernel)
theorem xm_PB_138 : Cond.methodLinkNest "PotentialBench" 138 y_Be_doubled "PotentialBench" ∈ tables_1 := List.mem_of_getElem? (i := 724) (by decide +kernel)
theorem wn_Be_doubled : Cond.instanceMethod y_Be_doubled ∈ gt := gt_i 726 (by decide +kernel) (by decide +kernel)
theorem wm_Be_54 : Cond.methodLink "PotentialBench$Best" 54 y_Wh_set ∈ gt := gt_i 728 (by decide +kernel) (by decide +kernel)
theorem wm_Be_58 : Cond.methodLink "PotentialBench$Best" 58 y_Wh_multiply ∈ gt := gt_i 729 (by decide +kernel) (by decide +kernel)
theorem wm_Be_62 : Cond.methodLink "PotentialBench$Best" 62 y_Wh_divide ∈ gt := gt_i 730 (by decide +kernel) (by decide +kernel)
theorem wm_Be_66 : Cond.methodLink "PotentialBench$Best" 66 y_Wh_lowest ∈ gt := gt_i 731 (by decide +kernel) (by decide +kernel)
theorem wn_Wh_lowest : Cond.instanceMethod y_Wh_lowest ∈ gt := gt_i 732 (by decide +kernel) (by decide +kernel)
theorem ws_Wh_lowest : Cond.selects "PotentialBench$Whole" y_Wh_lowest y_Wh_lowest ∈ gt := gt_i 733 (by decide +kernel) (by decide +kernel)
theorem wm_La_70 : Cond.methodLink "PotentialBenchLaw" 70 y_PB_covers ∈ gt := gt_i 735 (by decide +kernel) (by decide +kernel)
theorem wn_PB_covers : Cond.instanceMethod y_PB_covers ∈ gt := gt_i 736 (by decide +kernel) (by decide +kernel)
theorem ws_PB_covers : Cond.selects "PotentialBench" y_PB_covers y_PB_covers ∈ gt := gt_i 737 (by decide +kernel) (by decide +kernel)
theorem xm_PB_142 : Cond.methodLinkNest "PotentialBench" 142 y_Be_reaches "PotentialBench" ∈ tables_1 := List.mem_of_getElem? (i := 739) (by decide +kernel)
theorem wn_Be_reaches : Cond.instanceMethod y_Be_reaches ∈ gt := gt_i 741 (by decide +kernel) (by decide +kernel)
theorem wm_Be_70 : Cond.methodLink "PotentialBench$Best" 70 y_Be_addTimes ∈ gt := gt_i 743 (by decide +kernel) (by decide +kernel)
theorem wn_Be_addTimes : Cond.instanceMethod y_Be_addTimes ∈ gt := gt_i 745 (by decide +kernel) (by decide +kernel)
theorem wm_Be_78 : Cond.methodLink "PotentialBench$Best" 78 y_Wh_subtract ∈ gt := gt_i 747 (by decide +kernel) (by decide +kernel)
theorem wm_Be_74 : Cond.methodLink "PotentialBench$Best" 74 y_Wh_compare ∈ gt := gt_i 748 (by decide +kernel) (by decide +kernel)
theorem wl_La_10 : Cond.classLink "PotentialBenchLaw" 10 "PotentialBenchModel" ∈ gt := gt_i 749 (by decide +kernel) (by decide +kernel)
theorem wi_Mo : Cond.instantiable "PotentialBenchModel" 61 ∈ gt := gt_i 750 (by decide +kernel) (by decide +kernel)
theorem wm_La_12 : Cond.methodLink "PotentialBenchLaw" 12 y_Mo_init ∈ gt := gt_i 751 (by decide +kernel) (by decide +kernel)
theorem wn_Mo_init : Cond.instanceMethod y_Mo_init ∈ gt := gt_i 752 (by decide +kernel) (by decide +kernel)
theorem wm_Mo_3 : Cond.methodLink "PotentialBenchModel" 3 Lib.objectInit ∈ gt := gt_i 754 (by decide +kernel) (by decide +kernel)
theorem wk_Mo_56 : Cond.constant "PotentialBenchModel" 56 (36982) ∈ gt := gt_i 755 (by decide +kernel) (by decide +kernel)
theorem wk_Mo_82 : Cond.constant "PotentialBenchModel" 82 (319840) ∈ gt := gt_i 756 (by decide +kernel) (by decide +kernel)
theorem wf_Mo_111 : Cond.fieldLink "PotentialBenchModel" 111 "PotentialBenchModel" "functions" "I" ∈ gt := gt_i 757 (by decide +kernel) (by decide +kernel)
theorem wf_Mo_9 : Cond.fieldLink "PotentialBenchModel" 9 "PotentialBenchModel" "takes" "[I" ∈ gt := gt_i 758 (by decide +kernel) (by decide +kernel)
theorem wf_Mo_13 : Cond.fieldLink "PotentialBenchModel" 13 "PotentialBenchModel" "words" "[I" ∈ gt := gt_i 759 (by decide +kernel) (by decide +kernel)
theorem wf_Mo_16 : Cond.fieldLink "PotentialBenchModel" 16 "PotentialBenchModel" "counts" "[I" ∈ gt := gt_i 760 (by decide +kernel) (by decide +kernel)
theorem wf_Mo_19 : Cond.fieldLink "PotentialBenchModel" 19 "PotentialBenchModel" "place" "I" ∈ gt := gt_i 761 (by decide +kernel) (by decide +kernel)
theorem wf_Mo_23 : Cond.fieldLink "PotentialBenchModel" 23 "PotentialBenchModel" "ends" "[I" ∈ gt := gt_i 762 (by decide +kernel) (by decide +kernel)
theorem wf_Mo_26 : Cond.fieldLink "PotentialBenchModel" 26 "PotentialBenchModel" "openAt" "[I" ∈ gt := gt_i 763 (by decide +kernel) (by decide +kernel)
theorem wf_Mo_29 : Cond.fieldLink "PotentialBenchModel" 29 "PotentialBenchModel" "openParts" "[I" ∈ gt := gt_i 764 (by decide +kernel) (by decide +kernel)
theorem wf_Mo_32 : Cond.fieldLink "PotentialBenchModel" 32 "PotentialBenchModel" "openKnown" "[I" ∈ gt := gt_i 765 (by decide +kernel) (by decide +kernel)
theorem wf_Mo_118 : Cond.fieldLink "PotentialBenchModel" 118 "PotentialBenchModel" "open" "I" ∈ gt := gt_i 766 (by decide +kernel) (by decide +kernel)
theorem wf_Mo_175 : Cond.fieldLink "PotentialBenchModel" 175 "PotentialBenchModel" "cost" "J" ∈ gt := gt_i 767 (by decide +kernel) (by decide +kernel)
theorem wf_Mo_35 : Cond.fieldLink "PotentialBenchModel" 35 "PotentialBenchModel" "given" "I" ∈ gt := gt_i 768 (by decide +kernel) (by decide +kernel)
theorem wf_Mo_165 : Cond.fieldLink "PotentialBenchModel" 165 "PotentialBenchModel" "steps" "I" ∈ gt := gt_i 769 (by decide +kernel) (by decide +kernel)
theorem wf_Mo_38 : Cond.fieldLink "PotentialBenchModel" 38 "PotentialBenchModel" "waitKinds" "[I" ∈ gt := gt_i 770 (by decide +kernel) (by decide +kernel)
theorem wf_Mo_41 : Cond.fieldLink "PotentialBenchModel" 41 "PotentialBenchModel" "waitFunctions" "[I" ∈ gt := gt_i 771 (by decide +kernel) (by decide +kernel)
theorem wf_Mo_44 : Cond.fieldLink "PotentialBenchModel" 44 "PotentialBenchModel" "waitAts" "[I" ∈ gt := gt_i 772 (by decide +kernel) (by decide +kernel)
theorem wf_Mo_47 : Cond.fieldLink "PotentialBenchModel" 47 "PotentialBenchModel" "waitBases" "[I" ∈ gt := gt_i 773 (by decide +kernel) (by decide +kernel)
theorem wf_Mo_50 : Cond.fieldLink "PotentialBenchModel" 50 "PotentialBenchModel" "waitKnowns" "[I" ∈ gt := gt_i 774 (by decide +kernel) (by decide +kernel)
theorem wf_Mo_143 : Cond.fieldLink "PotentialBenchModel" 143 "PotentialBenchModel" "waiting" "I" ∈ gt := gt_i 775 (by decide +kernel) (by decide +kernel)
theorem wf_Mo_53 : Cond.fieldLink "PotentialBenchModel" 53 "PotentialBenchModel" "variables" "[I" ∈ gt := gt_i 776 (by decide +kernel) (by decide +kernel)
theorem wf_Mo_149 : Cond.fieldLink "PotentialBenchModel" 149 "PotentialBenchModel" "base" "I" ∈ gt := gt_i 777 (by decide +kernel) (by decide +kernel)
theorem wf_Mo_152 : Cond.fieldLink "PotentialBenchModel" 152 "PotentialBenchModel" "known" "I" ∈ gt := gt_i 778 (by decide +kernel) (by decide +kernel)
theorem wf_Mo_146 : Cond.fieldLink "PotentialBenchModel" 146 "PotentialBenchModel" "now" "I" ∈ gt := gt_i 779 (by decide +kernel) (by decide +kernel)
theorem wf_Mo_162 : Cond.fieldLink "PotentialBenchModel" 162 "PotentialBenchModel" "at" "I" ∈ gt := gt_i 780 (by decide +kernel) (by decide +kernel)
theorem wf_Mo_155 : Cond.fieldLink "PotentialBenchModel" 155 "PotentialBenchModel" "calls" "I" ∈ gt := gt_i 781 (by decide +kernel) (by decide +kernel)
theorem wf_Mo_158 : Cond.fieldLink "PotentialBenchModel" 158 "PotentialBenchModel" "tooLong" "Z" ∈ gt := gt_i 782 (by decide +kernel) (by decide +kernel)
theorem wf_Mo_168 : Cond.fieldLink "PotentialBenchModel" 168 "PotentialBenchModel" "value" "I" ∈ gt := gt_i 783 (by decide +kernel) (by decide +kernel)
theorem wf_Mo_57 : Cond.fieldLink "PotentialBenchModel" 57 "PotentialBenchModel" "lines" "[J" ∈ gt := gt_i 784 (by decide +kernel) (by decide +kernel)
theorem wf_Mo_208 : Cond.fieldLink "PotentialBenchModel" 208 "PotentialBenchModel" "blocks" "I" ∈ gt := gt_i 785 (by decide +kernel) (by decide +kernel)
theorem wf_Mo_192 : Cond.fieldLink "PotentialBenchModel" 192 "PotentialBenchModel" "unknowns" "I" ∈ gt := gt_i 786 (by decide +kernel) (by decide +kernel)
theorem wf_Mo_198 : Cond.fieldLink "PotentialBenchModel" 198 "PotentialBenchModel" "conditions" "I" ∈ gt := gt_i 787 (by decide +kernel) (by decide +kernel)
theorem wf_Mo_195 : Cond.fieldLink "PotentialBenchModel" 195 "PotentialBenchModel" "full" "Z" ∈ gt := gt_i 788 (by decide +kernel) (by decide +kernel)
theorem wf_Mo_61 : Cond.fieldLink "PotentialBenchModel" 61 "PotentialBenchModel" "firsts" "[I" ∈ gt := gt_i 789 (by decide +kernel) (by decide +kernel)
theorem wf_Mo_64 : Cond.fieldLink "PotentialBenchModel" 64 "PotentialBenchModel" "sums" "[J" ∈ gt := gt_i 790 (by decide +kernel) (by decide +kernel)
theorem wf_Mo_221 : Cond.fieldLink "PotentialBenchModel" 221 "PotentialBenchModel" "needing" "I" ∈ gt := gt_i 791 (by decide +kernel) (by decide +kernel)
theorem wf_Mo_67 : Cond.fieldLink "PotentialBenchModel" 67 "PotentialBenchModel" "needBlocks" "[I" ∈ gt := gt_i 792 (by decide +kernel) (by decide +kernel)
theorem wf_Mo_70 : Cond.fieldLink "PotentialBenchModel" 70 "PotentialBenchModel" "needAts" "[I" ∈ gt := gt_i 793 (by decide +kernel) (by decide +kernel)
theorem wf_Mo_73 : Cond.fieldLink "PotentialBenchModel" 73 "PotentialBenchModel" "needKnowns" "[I" ∈ gt := gt_i 794 (by decide +kernel) (by decide +kernel)
theorem wf_Mo_76 : Cond.fieldLink "PotentialBenchModel" 76 "PotentialBenchModel" "needPhases" "[I" ∈ gt := gt_i 795 (by decide +kernel) (by decide +kernel)
theorem wf_Mo_79 : Cond.fieldLink "PotentialBenchModel" 79 "PotentialBenchModel" "needParts" "[I" ∈ gt := gt_i 796 (by decide +kernel) (by decide +kernel)
theorem wf_Mo_241 : Cond.fieldLink "PotentialBenchModel" 241 "PotentialBenchModel" "ready" "I" ∈ gt := gt_i 797 (by decide +kernel) (by decide +kernel)
theorem wf_Mo_83 : Cond.fieldLink "PotentialBenchModel" 83 "PotentialBenchModel" "digits" "[I" ∈ gt := gt_i 798 (by decide +kernel) (by decide +kernel)
theorem wf_Mo_86 : Cond.fieldLink "PotentialBenchModel" 86 "PotentialBenchModel" "sizes" "[I" ∈ gt := gt_i 799 (by decide +kernel) (by decide +kernel)
theorem wf_Mo_89 : Cond.fieldLink "PotentialBenchModel" 89 "PotentialBenchModel" "below" "[Z" ∈ gt := gt_i 800 (by decide +kernel) (by decide +kernel)
theorem wf_Mo_93 : Cond.fieldLink "PotentialBenchModel" 93 "PotentialBenchModel" "one" "[I" ∈ gt := gt_i 801 (by decide +kernel) (by decide +kernel)
theorem wf_Mo_96 : Cond.fieldLink "PotentialBenchModel" 96 "PotentialBenchModel" "two" "[I" ∈ gt := gt_i 802 (by decide +kernel) (by decide +kernel)
theorem wf_Mo_99 : Cond.fieldLink "PotentialBenchModel" 99 "PotentialBenchModel" "quotient" "[I" ∈ gt := gt_i 803 (by decide +kernel) (by decide +kernel)
theorem wf_Mo_102 : Cond.fieldLink "PotentialBenchModel" 102 "PotentialBenchModel" "divisor" "[I" ∈ gt := gt_i 804 (by decide +kernel) (by decide +kernel)
theorem wf_Mo_286 : Cond.fieldLink "PotentialBenchModel" 286 "PotentialBenchModel" "oneSize" "I" ∈ gt := gt_i 805 (by decide +kernel) (by decide +kernel)
theorem wf_Mo_292 : Cond.fieldLink "PotentialBenchModel" 292 "PotentialBenchModel" "twoSize" "I" ∈ gt := gt_i 806 (by decide +kernel) (by decide +kernel)
theorem wf_Mo_289 : Cond.fieldLink "PotentialBenchModel" 289 "PotentialBenchModel" "oneBelow" "Z" ∈ gt := gt_i 807 (by decide +kernel) (by decide +kernel)
theorem wf_Mo_295 : Cond.fieldLink "PotentialBenchModel" 295 "PotentialBenchModel" "twoBelow" "Z" ∈ gt := gt_i 808 (by decide +kernel) (by decide +kernel)
theorem wf_Mo_313 : Cond.fieldLink "PotentialBenchModel" 313 "PotentialBenchModel" "quotientSize" "I" ∈ gt := gt_i 809 (by decide +kernel) (by decide +kernel)
theorem wf_Mo_333 : Cond.fieldLink "PotentialBenchModel" 333 "PotentialBenchModel" "rows" "I" ∈ gt := gt_i 810 (by decide +kernel) (by decide +kernel)
theorem wf_Mo_336 : Cond.fieldLink "PotentialBenchModel" 336 "PotentialBenchModel" "aims" "I" ∈ gt := gt_i 811 (by decide +kernel) (by decide +kernel)
theorem wf_Mo_105 : Cond.fieldLink "PotentialBenchModel" 105 "PotentialBenchModel" "rowNumbers" "[I" ∈ gt := gt_i 812 (by decide +kernel) (by decide +kernel)
theorem wf_Mo_108 : Cond.fieldLink "PotentialBenchModel" 108 "PotentialBenchModel" "columnNumbers" "[I" ∈ gt := gt_i 813 (by decide +kernel) (by decide +kernel)
theorem wf_Mo_383 : Cond.fieldLink "PotentialBenchModel" 383 "PotentialBenchModel" "solved" "Z" ∈ gt := gt_i 814 (by decide +kernel) (by decide +kernel)
theorem wf_Mo_392 : Cond.fieldLink "PotentialBenchModel" 392 "PotentialBenchModel" "boundFunction" "I" ∈ gt := gt_i 815 (by decide +kernel) (by decide +kernel)
theorem wf_Mo_364 : Cond.fieldLink "PotentialBenchModel" 364 "PotentialBenchModel" "gone" "I" ∈ gt := gt_i 816 (by decide +kernel) (by decide +kernel)
theorem wf_Mo_386 : Cond.fieldLink "PotentialBenchModel" 386 "PotentialBenchModel" "counted" "Z" ∈ gt := gt_i 817 (by decide +kernel) (by decide +kernel)
theorem wa_long : Cond.arrayClass .long ∈ gt := gt_i 941 (by decide +kernel) (by decide +kernel)
theorem wa_boolean : Cond.arrayClass .boolean ∈ gt := gt_i 942 (by decide +kernel) (by decide +kernel)
theorem wm_La_17 : Cond.methodLink "PotentialBenchLaw" 17 y_Mo_function ∈ gt := gt_i 943 (by decide +kernel) (by decide +kernel)
theorem wn_Mo_function : Cond.instanceMethod y_Mo_function ∈ gt := gt_i 944 (by decide +kernel) (by decide +kernel)
theorem ws_Mo_function : Cond.selects "PotentialBenchModel" y_Mo_function y_Mo_function ∈ gt := gt_i 945 (by decide +kernel) (by decide +kernel)
theorem wm_La_22 : Cond.methodLink "PotentialBenchLaw" 22 y_Mo_word ∈ gt := gt_i 947 (by decide +kernel) (by decide +kernel)
theorem wn_Mo_word : Cond.instanceMethod y_Mo_word ∈ gt := gt_i 948 (by decide +kernel) (by decide +kernel)
theorem ws_Mo_word : Cond.selects "PotentialBenchModel" y_Mo_word y_Mo_word ∈ gt := gt_i 949 (by decide +kernel) (by decide +kernel)
theorem wm_Mo_114 : Cond.methodLink "PotentialBenchModel" 114 y_Mo_isFunction ∈ gt := gt_i 951 (by decide +kernel) (by decide +kernel)
theorem wn_Mo_isFunction : Cond.instanceMethod y_Mo_isFunction ∈ gt := gt_i 953 (by decide +kernel) (by decide +kernel)
theorem wm_La_27 : Cond.methodLink "PotentialBenchLaw" 27 y_Mo_cut ∈ gt := gt_i 955 (by decide +kernel) (by decide +kernel)
theorem wn_Mo_cut : Cond.instanceMethod y_Mo_cut ∈ gt := gt_i 956 (by decide +kernel) (by decide +kernel)
theorem ws_Mo_cut : Cond.selects "PotentialBenchModel" y_Mo_cut y_Mo_cut ∈ gt := gt_i 957 (by decide +kernel) (by decide +kernel)
theorem wm_La_32 : Cond.methodLink "PotentialBenchLaw" 32 y_Mo_look ∈ gt := gt_i 959 (by decide +kernel) (by decide +kernel)
theorem wn_Mo_look : Cond.instanceMethod y_Mo_look ∈ gt := gt_i 960 (by decide +kernel) (by decide +kernel)
theorem ws_Mo_look : Cond.selects "PotentialBenchModel" y_Mo_look y_Mo_look ∈ gt := gt_i 961 (by decide +kernel) (by decide +kernel)
theorem wm_Mo_140 : Cond.methodLink "PotentialBenchModel" 140 y_Mo_wrong ∈ gt := gt_i 963 (by decide +kernel) (by decide +kernel)
theorem wn_Mo_wrong : Cond.instanceMethod y_Mo_wrong ∈ gt := gt_i 965 (by decide +kernel) (by decide +kernel)
theorem wm_Mo_121 : Cond.methodLink "PotentialBenchModel" 121 y_Mo_wrongHead ∈ gt := gt_i 967 (by decide +kernel) (by decide +kernel)
theorem wn_Mo_wrongHead : Cond.instanceMethod y_Mo_wrongHead ∈ gt := gt_i 969 (by decide +kernel) (by decide +kernel)
theorem wm_Mo_125 : Cond.methodLink "PotentialBenchModel" 125 y_Mo_headOf ∈ gt := gt_i 971 (by decide +kernel) (by decide +kernel)
theorem wn_Mo_headOf : Cond.instanceMethod y_Mo_headOf ∈ gt := gt_i 973 (by decide +kernel) (by decide +kernel)
theorem wm_Mo_129 : Cond.methodLink "PotentialBenchModel" 129 y_Mo_close ∈ gt := gt_i 975 (by decide +kernel) (by decide +kernel)
theorem wn_Mo_close : Cond.instanceMethod y_Mo_close ∈ gt := gt_i 977 (by decide +kernel) (by decide +kernel)
theorem wm_Mo_137 : Cond.methodLink "PotentialBenchModel" 137 y_Mo_partsOf ∈ gt := gt_i 979 (by decide +kernel) (by decide +kernel)
theorem wt_Mo_partsOf : Cond.static y_Mo_partsOf ∈ gt := gt_i 980 (by decide +kernel) (by decide +kernel)
theorem wm_Mo_133 : Cond.methodLink "PotentialBenchModel" 133 y_Mo_knownBehind ∈ gt := gt_i 982 (by decide +kernel) (by decide +kernel)
theorem wn_Mo_knownBehind : Cond.instanceMethod y_Mo_knownBehind ∈ gt := gt_i 984 (by decide +kernel) (by decide +kernel)
theorem wm_La_36 : Cond.methodLink "PotentialBenchLaw" 36 y_Mo_place ∈ gt := gt_i 986 (by decide +kernel) (by decide +kernel)
theorem wn_Mo_place : Cond.instanceMethod y_Mo_place ∈ gt := gt_i 987 (by decide +kernel) (by decide +kernel)
theorem ws_Mo_place : Cond.selects "PotentialBenchModel" y_Mo_place y_Mo_place ∈ gt := gt_i 988 (by decide +kernel) (by decide +kernel)
theorem wm_La_41 : Cond.methodLink "PotentialBenchLaw" 41 y_Mo_run ∈ gt := gt_i 990 (by decide +kernel) (by decide +kernel)
theorem wn_Mo_run : Cond.instanceMethod y_Mo_run ∈ gt := gt_i 991 (by decide +kernel) (by decide +kernel)
theorem ws_Mo_run : Cond.selects "PotentialBenchModel" y_Mo_run y_Mo_run ∈ gt := gt_i 992 (by decide +kernel) (by decide +kernel)
theorem wm_Mo_182 : Cond.methodLink "PotentialBenchModel" 182 y_Mo_isRight ∈ gt := gt_i 994 (by decide +kernel) (by decide +kernel)
theorem wn_Mo_isRight : Cond.instanceMethod y_Mo_isRight ∈ gt := gt_i 996 (by decide +kernel) (by decide +kernel)
theorem wm_Mo_179 : Cond.methodLink "PotentialBenchModel" 179 y_Mo_enter ∈ gt := gt_i 998 (by decide +kernel) (by decide +kernel)
theorem wn_Mo_enter : Cond.instanceMethod y_Mo_enter ∈ gt := gt_i 1000 (by decide +kernel) (by decide +kernel)
theorem wm_Mo_186 : Cond.methodLink "PotentialBenchModel" 186 y_Mo_beginOne ∈ gt := gt_i 1002 (by decide +kernel) (by decide +kernel)
theorem wn_Mo_beginOne : Cond.instanceMethod y_Mo_beginOne ∈ gt := gt_i 1004 (by decide +kernel) (by decide +kernel)
theorem wm_Mo_171 : Cond.methodLink "PotentialBenchModel" 171 y_Mo_wait ∈ gt := gt_i 1006 (by decide +kernel) (by decide +kernel)
theorem wn_Mo_wait : Cond.instanceMethod y_Mo_wait ∈ gt := gt_i 1008 (by decide +kernel) (by decide +kernel)
theorem wm_Mo_189 : Cond.methodLink "PotentialBenchModel" 189 y_Mo_giveOn ∈ gt := gt_i 1010 (by decide +kernel) (by decide +kernel)
theorem wn_Mo_giveOn : Cond.instanceMethod y_Mo_giveOn ∈ gt := gt_i 1012 (by decide +kernel) (by decide +kernel)
theorem wm_La_46 : Cond.methodLink "PotentialBenchLaw" 46 y_Mo_cost ∈ gt := gt_i 1014 (by decide +kernel) (by decide +kernel)
theorem wn_Mo_cost : Cond.instanceMethod y_Mo_cost ∈ gt := gt_i 1015 (by decide +kernel) (by decide +kernel)
theorem ws_Mo_cost : Cond.selects "PotentialBenchModel" y_Mo_cost y_Mo_cost ∈ gt := gt_i 1016 (by decide +kernel) (by decide +kernel)
theorem wm_La_50 : Cond.methodLink "PotentialBenchLaw" 50 y_Mo_given ∈ gt := gt_i 1018 (by decide +kernel) (by decide +kernel)
theorem wn_Mo_given : Cond.instanceMethod y_Mo_given ∈ gt := gt_i 1019 (by decide +kernel) (by decide +kernel)
theorem ws_Mo_given : Cond.selects "PotentialBenchModel" y_Mo_given y_Mo_given ∈ gt := gt_i 1020 (by decide +kernel) (by decide +kernel)
theorem wm_La_54 : Cond.methodLink "PotentialBenchLaw" 54 y_Mo_steps ∈ gt := gt_i 1022 (by decide +kernel) (by decide +kernel)
theorem wn_Mo_steps : Cond.instanceMethod y_Mo_steps ∈ gt := gt_i 1023 (by decide +kernel) (by decide +kernel)
theorem ws_Mo_steps : Cond.selects "PotentialBenchModel" y_Mo_steps y_Mo_steps ∈ gt := gt_i 1024 (by decide +kernel) (by decide +kernel)
theorem wm_La_58 : Cond.methodLink "PotentialBenchLaw" 58 y_Mo_bound ∈ gt := gt_i 1026 (by decide +kernel) (by decide +kernel)
theorem wn_Mo_bound : Cond.instanceMethod y_Mo_bound ∈ gt := gt_i 1027 (by decide +kernel) (by decide +kernel)
theorem ws_Mo_bound : Cond.selects "PotentialBenchModel" y_Mo_bound y_Mo_bound ∈ gt := gt_i 1028 (by decide +kernel) (by decide +kernel)
theorem wm_Mo_389 : Cond.methodLink "PotentialBenchModel" 389 y_Mo_needBody ∈ gt := gt_i 1030 (by decide +kernel) (by decide +kernel)
theorem wn_Mo_needBody : Cond.instanceMethod y_Mo_needBody ∈ gt := gt_i 1032 (by decide +kernel) (by decide +kernel)
theorem wm_Mo_211 : Cond.methodLink "PotentialBenchModel" 211 y_Mo_line ∈ gt := gt_i 1034 (by decide +kernel) (by decide +kernel)
theorem wt_Mo_line : Cond.static y_Mo_line ∈ gt := gt_i 1035 (by decide +kernel) (by decide +kernel)
theorem wm_Mo_214 : Cond.methodLink "PotentialBenchModel" 214 y_Mo_clear ∈ gt := gt_i 1037 (by decide +kernel) (by decide +kernel)
theorem wn_Mo_clear : Cond.instanceMethod y_Mo_clear ∈ gt := gt_i 1039 (by decide +kernel) (by decide +kernel)
theorem wm_Mo_263 : Cond.methodLink "PotentialBenchModel" 263 y_Mo_unknown ∈ gt := gt_i 1041 (by decide +kernel) (by decide +kernel)
theorem wn_Mo_unknown : Cond.instanceMethod y_Mo_unknown ∈ gt := gt_i 1043 (by decide +kernel) (by decide +kernel)
theorem wm_Mo_273 : Cond.methodLink "PotentialBenchModel" 273 y_Mo_needOf ∈ gt := gt_i 1045 (by decide +kernel) (by decide +kernel)
theorem wn_Mo_needOf : Cond.instanceMethod y_Mo_needOf ∈ gt := gt_i 1047 (by decide +kernel) (by decide +kernel)
theorem wm_Mo_230 : Cond.methodLink "PotentialBenchModel" 230 y_Mo_openNeed ∈ gt := gt_i 1049 (by decide +kernel) (by decide +kernel)
theorem wn_Mo_openNeed : Cond.instanceMethod y_Mo_openNeed ∈ gt := gt_i 1051 (by decide +kernel) (by decide +kernel)
theorem wm_Mo_224 : Cond.methodLink "PotentialBenchModel" 224 y_Mo_newBlock ∈ gt := gt_i 1053 (by decide +kernel) (by decide +kernel)
theorem wn_Mo_newBlock : Cond.instanceMethod y_Mo_newBlock ∈ gt := gt_i 1055 (by decide +kernel) (by decide +kernel)
theorem wm_Mo_218 : Cond.methodLink "PotentialBenchModel" 218 y_Mo_copy ∈ gt := gt_i 1057 (by decide +kernel) (by decide +kernel)
theorem wn_Mo_copy : Cond.instanceMethod y_Mo_copy ∈ gt := gt_i 1059 (by decide +kernel) (by decide +kernel)
theorem wm_Mo_251 : Cond.methodLink "PotentialBenchModel" 251 y_Mo_firstOf ∈ gt := gt_i 1061 (by decide +kernel) (by decide +kernel)
theorem wn_Mo_firstOf : Cond.instanceMethod y_Mo_firstOf ∈ gt := gt_i 1063 (by decide +kernel) (by decide +kernel)
theorem wm_Mo_227 : Cond.methodLink "PotentialBenchModel" 227 y_Mo_add ∈ gt := gt_i 1065 (by decide +kernel) (by decide +kernel)
theorem wn_Mo_add : Cond.instanceMethod y_Mo_add ∈ gt := gt_i 1067 (by decide +kernel) (by decide +kernel)
theorem wm_Mo_234 : Cond.methodLink "PotentialBenchModel" 234 y_Mo_needCall ∈ gt := gt_i 1069 (by decide +kernel) (by decide +kernel)
theorem wn_Mo_needCall : Cond.instanceMethod y_Mo_needCall ∈ gt := gt_i 1071 (by decide +kernel) (by decide +kernel)
theorem wm_Mo_260 : Cond.methodLink "PotentialBenchModel" 260 y_Mo_newUnknown ∈ gt := gt_i 1073 (by decide +kernel) (by decide +kernel)
theorem wn_Mo_newUnknown : Cond.instanceMethod y_Mo_newUnknown ∈ gt := gt_i 1075 (by decide +kernel) (by decide +kernel)
theorem wm_Mo_201 : Cond.methodLink "PotentialBenchModel" 201 y_Mo_newCondition ∈ gt := gt_i 1077 (by decide +kernel) (by decide +kernel)
theorem wn_Mo_newCondition : Cond.instanceMethod y_Mo_newCondition ∈ gt := gt_i 1079 (by decide +kernel) (by decide +kernel)
theorem wm_Mo_205 : Cond.methodLink "PotentialBenchModel" 205 y_Mo_take ∈ gt := gt_i 1081 (by decide +kernel) (by decide +kernel)
theorem wn_Mo_take : Cond.instanceMethod y_Mo_take ∈ gt := gt_i 1083 (by decide +kernel) (by decide +kernel)
theorem wm_Mo_266 : Cond.methodLink "PotentialBenchModel" 266 y_Mo_atLeast ∈ gt := gt_i 1085 (by decide +kernel) (by decide +kernel)
theorem wn_Mo_atLeast : Cond.instanceMethod y_Mo_atLeast ∈ gt := gt_i 1087 (by decide +kernel) (by decide +kernel)
theorem wm_Mo_238 : Cond.methodLink "PotentialBenchModel" 238 y_Mo_endNeed ∈ gt := gt_i 1089 (by decide +kernel) (by decide +kernel)
theorem wn_Mo_endNeed : Cond.instanceMethod y_Mo_endNeed ∈ gt := gt_i 1091 (by decide +kernel) (by decide +kernel)
theorem wm_Mo_254 : Cond.methodLink "PotentialBenchModel" 254 y_Mo_secondOf ∈ gt := gt_i 1093 (by decide +kernel) (by decide +kernel)
theorem wn_Mo_secondOf : Cond.instanceMethod y_Mo_secondOf ∈ gt := gt_i 1095 (by decide +kernel) (by decide +kernel)
theorem wm_Mo_244 : Cond.methodLink "PotentialBenchModel" 244 y_Mo_keepAll ∈ gt := gt_i 1097 (by decide +kernel) (by decide +kernel)
theorem wn_Mo_keepAll : Cond.instanceMethod y_Mo_keepAll ∈ gt := gt_i 1099 (by decide +kernel) (by decide +kernel)
theorem wm_Mo_257 : Cond.methodLink "PotentialBenchModel" 257 y_Mo_thirdOf ∈ gt := gt_i 1101 (by decide +kernel) (by decide +kernel)
theorem wn_Mo_thirdOf : Cond.instanceMethod y_Mo_thirdOf ∈ gt := gt_i 1103 (by decide +kernel) (by decide +kernel)
theorem wm_Mo_247 : Cond.methodLink "PotentialBenchModel" 247 y_Mo_needMatch ∈ gt := gt_i 1105 (by decide +kernel) (by decide +kernel)
theorem wn_Mo_needMatch : Cond.instanceMethod y_Mo_needMatch ∈ gt := gt_i 1107 (by decide +kernel) (by decide +kernel)
theorem wm_Mo_269 : Cond.methodLink "PotentialBenchModel" 269 y_Mo_isNamed ∈ gt := gt_i 1109 (by decide +kernel) (by decide +kernel)
theorem wn_Mo_isNamed : Cond.instanceMethod y_Mo_isNamed ∈ gt := gt_i 1111 (by decide +kernel) (by decide +kernel)
theorem wm_Mo_395 : Cond.methodLink "PotentialBenchModel" 395 y_Mo_lay ∈ gt := gt_i 1113 (by decide +kernel) (by decide +kernel)
theorem wn_Mo_lay : Cond.instanceMethod y_Mo_lay ∈ gt := gt_i 1115 (by decide +kernel) (by decide +kernel)
theorem wm_Mo_360 : Cond.methodLink "PotentialBenchModel" 360 y_Mo_put ∈ gt := gt_i 1117 (by decide +kernel) (by decide +kernel)
theorem wn_Mo_put : Cond.instanceMethod y_Mo_put ∈ gt := gt_i 1119 (by decide +kernel) (by decide +kernel)
theorem wk_Mo_276 : Cond.constantLong "PotentialBenchModel" 276 (65535) ∈ gt := gt_i 1121 (by decide +kernel) (by decide +kernel)
theorem wm_Mo_328 : Cond.methodLink "PotentialBenchModel" 328 y_Mo_at ∈ gt := gt_i 1122 (by decide +kernel) (by decide +kernel)
theorem wt_Mo_at : Cond.static y_Mo_at ∈ gt := gt_i 1123 (by decide +kernel) (by decide +kernel)
theorem wm_Mo_398 : Cond.methodLink "PotentialBenchModel" 398 y_Mo_reach ∈ gt := gt_i 1125 (by decide +kernel) (by decide +kernel)
theorem wn_Mo_reach : Cond.instanceMethod y_Mo_reach ∈ gt := gt_i 1127 (by decide +kernel) (by decide +kernel)
theorem wm_Mo_374 : Cond.methodLink "PotentialBenchModel" 374 y_Mo_exchange ∈ gt := gt_i 1129 (by decide +kernel) (by decide +kernel)
theorem wn_Mo_exchange : Cond.instanceMethod y_Mo_exchange ∈ gt := gt_i 1131 (by decide +kernel) (by decide +kernel)
theorem wm_Mo_330 : Cond.methodLink "PotentialBenchModel" 330 y_Mo_signOf ∈ gt := gt_i 1133 (by decide +kernel) (by decide +kernel)
theorem wn_Mo_signOf : Cond.instanceMethod y_Mo_signOf ∈ gt := gt_i 1135 (by decide +kernel) (by decide +kernel)
theorem wm_Mo_339 : Cond.methodLink "PotentialBenchModel" 339 y_Mo_rowBy ∈ gt := gt_i 1137 (by decide +kernel) (by decide +kernel)
theorem wn_Mo_rowBy : Cond.instanceMethod y_Mo_rowBy ∈ gt := gt_i 1139 (by decide +kernel) (by decide +kernel)
theorem wm_Mo_343 : Cond.methodLink "PotentialBenchModel" 343 y_Mo_turn ∈ gt := gt_i 1141 (by decide +kernel) (by decide +kernel)
theorem wn_Mo_turn : Cond.instanceMethod y_Mo_turn ∈ gt := gt_i 1143 (by decide +kernel) (by decide +kernel)
theorem wm_Mo_351 : Cond.methodLink "PotentialBenchModel" 351 y_Mo_products ∈ gt := gt_i 1145 (by decide +kernel) (by decide +kernel)
theorem wn_Mo_products : Cond.instanceMethod y_Mo_products ∈ gt := gt_i 1146 (by decide +kernel) (by decide +kernel)
theorem ws_Mo_products : Cond.selects "PotentialBenchModel" y_Mo_products y_Mo_products ∈ gt := gt_i 1147 (by decide +kernel) (by decide +kernel)
theorem wm_Mo_282 : Cond.methodLink "PotentialBenchModel" 282 y_Mo_times ∈ gt := gt_i 1149 (by decide +kernel) (by decide +kernel)
theorem wn_Mo_times : Cond.instanceMethod y_Mo_times ∈ gt := gt_i 1151 (by decide +kernel) (by decide +kernel)
theorem wm_Mo_278 : Cond.methodLink "PotentialBenchModel" 278 y_Mo_cut2 ∈ gt := gt_i 1153 (by decide +kernel) (by decide +kernel)
theorem wt_Mo_cut2 : Cond.static y_Mo_cut2 ∈ gt := gt_i 1154 (by decide +kernel) (by decide +kernel)
theorem wm_Mo_298 : Cond.methodLink "PotentialBenchModel" 298 y_Mo_join ∈ gt := gt_i 1156 (by decide +kernel) (by decide +kernel)
theorem wn_Mo_join : Cond.instanceMethod y_Mo_join ∈ gt := gt_i 1158 (by decide +kernel) (by decide +kernel)
theorem wm_Mo_305 : Cond.methodLink "PotentialBenchModel" 305 y_Mo_addRows ∈ gt := gt_i 1160 (by decide +kernel) (by decide +kernel)
theorem wn_Mo_addRows : Cond.instanceMethod y_Mo_addRows ∈ gt := gt_i 1162 (by decide +kernel) (by decide +kernel)
theorem wk_Mo_312 : Cond.constant "PotentialBenchModel" 312 (65535) ∈ gt := gt_i 1164 (by decide +kernel) (by decide +kernel)
theorem wm_Mo_301 : Cond.methodLink "PotentialBenchModel" 301 y_Mo_compare ∈ gt := gt_i 1165 (by decide +kernel) (by decide +kernel)
theorem wt_Mo_compare : Cond.static y_Mo_compare ∈ gt := gt_i 1166 (by decide +kernel) (by decide +kernel)
theorem wm_Mo_308 : Cond.methodLink "PotentialBenchModel" 308 y_Mo_subtract ∈ gt := gt_i 1168 (by decide +kernel) (by decide +kernel)
theorem wt_Mo_subtract : Cond.static y_Mo_subtract ∈ gt := gt_i 1169 (by decide +kernel) (by decide +kernel)
theorem wm_Mo_354 : Cond.methodLink "PotentialBenchModel" 354 y_Mo_divide ∈ gt := gt_i 1171 (by decide +kernel) (by decide +kernel)
theorem wn_Mo_divide : Cond.instanceMethod y_Mo_divide ∈ gt := gt_i 1172 (by decide +kernel) (by decide +kernel)
theorem ws_Mo_divide : Cond.selects "PotentialBenchModel" y_Mo_divide y_Mo_divide ∈ gt := gt_i 1173 (by decide +kernel) (by decide +kernel)
theorem wk_Mo_316 : Cond.constant "PotentialBenchModel" 316 (32768) ∈ gt := gt_i 1175 (by decide +kernel) (by decide +kernel)
theorem wm_Mo_317 : Cond.methodLink "PotentialBenchModel" 317 y_Mo_shiftInto ∈ gt := gt_i 1176 (by decide +kernel) (by decide +kernel)
theorem wn_Mo_shiftInto : Cond.instanceMethod y_Mo_shiftInto ∈ gt := gt_i 1178 (by decide +kernel) (by decide +kernel)
theorem wm_Mo_320 : Cond.methodLink "PotentialBenchModel" 320 y_Mo_raise ∈ gt := gt_i 1180 (by decide +kernel) (by decide +kernel)
theorem wn_Mo_raise : Cond.instanceMethod y_Mo_raise ∈ gt := gt_i 1182 (by decide +kernel) (by decide +kernel)
theorem wm_Mo_323 : Cond.methodLink "PotentialBenchModel" 323 y_Mo_digit ∈ gt := gt_i 1184 (by decide +kernel) (by decide +kernel)
theorem wn_Mo_digit : Cond.instanceMethod y_Mo_digit ∈ gt := gt_i 1186 (by decide +kernel) (by decide +kernel)
theorem wk_Mo_326 : Cond.constantLong "PotentialBenchModel" 326 (65536) ∈ gt := gt_i 1188 (by decide +kernel) (by decide +kernel)
theorem wm_Mo_357 : Cond.methodLink "PotentialBenchModel" 357 y_Mo_keepQuotient ∈ gt := gt_i 1189 (by decide +kernel) (by decide +kernel)
theorem wn_Mo_keepQuotient : Cond.instanceMethod y_Mo_keepQuotient ∈ gt := gt_i 1190 (by decide +kernel) (by decide +kernel)
theorem ws_Mo_keepQuotient : Cond.selects "PotentialBenchModel" y_Mo_keepQuotient y_Mo_keepQuotient ∈ gt := gt_i 1191 (by decide +kernel) (by decide +kernel)
theorem wm_Mo_346 : Cond.methodLink "PotentialBenchModel" 346 y_Mo_swapOne ∈ gt := gt_i 1193 (by decide +kernel) (by decide +kernel)
theorem wn_Mo_swapOne : Cond.instanceMethod y_Mo_swapOne ∈ gt := gt_i 1195 (by decide +kernel) (by decide +kernel)
theorem wk_Mo_350 : Cond.constant "PotentialBenchModel" 350 (319760) ∈ gt := gt_i 1197 (by decide +kernel) (by decide +kernel)
theorem wm_Mo_377 : Cond.methodLink "PotentialBenchModel" 377 y_Mo_coming ∈ gt := gt_i 1198 (by decide +kernel) (by decide +kernel)
theorem wn_Mo_coming : Cond.instanceMethod y_Mo_coming ∈ gt := gt_i 1200 (by decide +kernel) (by decide +kernel)
theorem wm_Mo_380 : Cond.methodLink "PotentialBenchModel" 380 y_Mo_giving ∈ gt := gt_i 1202 (by decide +kernel) (by decide +kernel)
theorem wn_Mo_giving : Cond.instanceMethod y_Mo_giving ∈ gt := gt_i 1204 (by decide +kernel) (by decide +kernel)
theorem wm_Mo_367 : Cond.methodLink "PotentialBenchModel" 367 y_Mo_shareOf ∈ gt := gt_i 1206 (by decide +kernel) (by decide +kernel)
theorem wn_Mo_shareOf : Cond.instanceMethod y_Mo_shareOf ∈ gt := gt_i 1208 (by decide +kernel) (by decide +kernel)
theorem wm_Mo_370 : Cond.methodLink "PotentialBenchModel" 370 y_Mo_compareProducts ∈ gt := gt_i 1210 (by decide +kernel) (by decide +kernel)
theorem wn_Mo_compareProducts : Cond.instanceMethod y_Mo_compareProducts ∈ gt := gt_i 1211 (by decide +kernel) (by decide +kernel)
theorem ws_Mo_compareProducts : Cond.selects "PotentialBenchModel" y_Mo_compareProducts y_Mo_compareProducts ∈ gt := gt_i 1212 (by decide +kernel) (by decide +kernel)
theorem wm_Mo_401 : Cond.methodLink "PotentialBenchModel" 401 y_Mo_improve ∈ gt := gt_i 1214 (by decide +kernel) (by decide +kernel)
theorem wn_Mo_improve : Cond.instanceMethod y_Mo_improve ∈ gt := gt_i 1216 (by decide +kernel) (by decide +kernel)
theorem wm_La_62 : Cond.methodLink "PotentialBenchLaw" 62 y_Mo_told ∈ gt := gt_i 1218 (by decide +kernel) (by decide +kernel)
theorem wn_Mo_told : Cond.instanceMethod y_Mo_told ∈ gt := gt_i 1219 (by decide +kernel) (by decide +kernel)
theorem ws_Mo_told : Cond.selects "PotentialBenchModel" y_Mo_told y_Mo_told ∈ gt := gt_i 1220 (by decide +kernel) (by decide +kernel)
theorem wm_La_67 : Cond.methodLink "PotentialBenchLaw" 67 y_Mo_scaled ∈ gt := gt_i 1222 (by decide +kernel) (by decide +kernel)
theorem wn_Mo_scaled : Cond.instanceMethod y_Mo_scaled ∈ gt := gt_i 1223 (by decide +kernel) (by decide +kernel)
theorem ws_Mo_scaled : Cond.selects "PotentialBenchModel" y_Mo_scaled y_Mo_scaled ∈ gt := gt_i 1224 (by decide +kernel) (by decide +kernel)
theorem wm_Mo_404 : Cond.methodLink "PotentialBenchModel" 404 y_Mo_boundAt ∈ gt := gt_i 1226 (by decide +kernel) (by decide +kernel)
theorem wn_Mo_boundAt : Cond.instanceMethod y_Mo_boundAt ∈ gt := gt_i 1228 (by decide +kernel) (by decide +kernel)
theorem wk_Mo_407 : Cond.constantLong "PotentialBenchModel" 407 (-2) ∈ gt := gt_i 1230 (by decide +kernel) (by decide +kernel)
theorem wm_La_74 : Cond.methodLink "PotentialBenchLaw" 74 y_Mo_covers ∈ gt := gt_i 1231 (by decide +kernel) (by decide +kernel)
theorem wn_Mo_covers : Cond.instanceMethod y_Mo_covers ∈ gt := gt_i 1232 (by decide +kernel) (by decide +kernel)
theorem ws_Mo_covers : Cond.selects "PotentialBenchModel" y_Mo_covers y_Mo_covers ∈ gt := gt_i 1233 (by decide +kernel) (by decide +kernel)
theorem wm_Mo_409 : Cond.methodLink "PotentialBenchModel" 409 y_Mo_sum ∈ gt := gt_i 1235 (by decide +kernel) (by decide +kernel)
theorem wn_Mo_sum : Cond.instanceMethod y_Mo_sum ∈ gt := gt_i 1237 (by decide +kernel) (by decide +kernel)
theorem wk_La_68 : Cond.constantLong "PotentialBenchLaw" 68 (4294967295) ∈ gt := gt_i 1239 (by decide +kernel) (by decide +kernel)
theorem wc_JO_init : Cond.code Lib.objectInit ⟨#[0xb1]⟩ 1 none ∈ gt := gt_i 22 (by decide +kernel) (by decide +kernel)
theorem ws_PB_isFunction : Cond.selects "PotentialBench" y_PB_isFunction y_PB_isFunction ∈ gt := gt_p (q := (⟨"PotentialBench", "isFunction", "(I)Z"⟩, 9)) (List.mem_of_getElem? (i := 0) (by decide +kernel))
theorem ws_PB_firstWrong : Cond.selects "PotentialBench" y_PB_firstWrong y_PB_firstWrong ∈ gt := gt_p (q := (⟨"PotentialBench", "firstWrong", "()I"⟩, 9)) (List.mem_of_getElem? (i := 1) (by decide +kernel))
theorem ws_Re_isRight : Cond.selects "PotentialBench$Reader" y_Re_isRight y_Re_isRight ∈ gt := gt_p (q := (⟨"PotentialBench$Reader", "isRight", "(II)Z"⟩, 5)) (List.mem_of_getElem? (i := 2) (by decide +kernel))
theorem ws_Re_expression : Cond.selects "PotentialBench$Reader" y_Re_expression y_Re_expression ∈ gt := gt_p (q := (⟨"PotentialBench$Reader", "expression", "(II)I"⟩, 5)) (List.mem_of_getElem? (i := 3) (by decide +kernel))
theorem ws_Re_number : Cond.selects "PotentialBench$Reader" y_Re_number y_Re_number ∈ gt := gt_p (q := (⟨"PotentialBench$Reader", "number", "(II)I"⟩, 5)) (List.mem_of_getElem? (i := 4) (by decide +kernel))
theorem ws_Bo_begin : Cond.selects "PotentialBench$Body" y_Bo_begin y_Bo_begin ∈ gt := gt_p (q := (⟨"PotentialBench$Body", "begin", "(II)I"⟩, 9)) (List.mem_of_getElem? (i := 5) (by decide +kernel))
theorem ws_Re_variable : Cond.selects "PotentialBench$Reader" y_Re_variable y_Re_variable ∈ gt := gt_p (q := (⟨"PotentialBench$Reader", "variable", "(I)V"⟩, 5)) (List.mem_of_getElem? (i := 6) (by decide +kernel))
theorem ws_Re_parts : Cond.selects "PotentialBench$Reader" y_Re_parts y_Re_parts ∈ gt := gt_p (q := (⟨"PotentialBench$Reader", "parts", "(IIZ)V"⟩, 5)) (List.mem_of_getElem? (i := 7) (by decide +kernel))
theorem ws_Re_call : Cond.selects "PotentialBench$Reader" y_Re_call y_Re_call ∈ gt := gt_p (q := (⟨"PotentialBench$Reader", "call", "(I)V"⟩, 5)) (List.mem_of_getElem? (i := 8) (by decide +kernel))
theorem ws_Ru_start : Cond.selects "PotentialBench$Runner" y_Ru_start y_Ru_start ∈ gt := gt_p (q := (⟨"PotentialBench$Runner", "start", "(IIII)V"⟩, 12)) (List.mem_of_getElem? (i := 9) (by decide +kernel))
theorem ws_Ru_open : Cond.selects "PotentialBench$Runner" y_Ru_open y_Ru_open ∈ gt := gt_p (q := (⟨"PotentialBench$Runner", "open", "(I)V"⟩, 12)) (List.mem_of_getElem? (i := 10) (by decide +kernel))
theorem ws_Ru_finish : Cond.selects "PotentialBench$Runner" y_Ru_finish y_Ru_finish ∈ gt := gt_p (q := (⟨"PotentialBench$Runner", "finish", "()Z"⟩, 12)) (List.mem_of_getElem? (i := 11) (by decide +kernel))
theorem ws_Ru_reachLength : Cond.selects "PotentialBench$Runner" y_Ru_reachLength y_Ru_reachLength ∈ gt := gt_p (q := (⟨"PotentialBench$Runner", "reachLength", "()Z"⟩, 12)) (List.mem_of_getElem? (i := 12) (by decide +kernel))
theorem ws_Bo_kind : Cond.selects "PotentialBench$Body" y_Bo_kind y_Bo_kind ∈ gt := gt_p (q := (⟨"PotentialBench$Body", "kind", "(I)I"⟩, 9)) (List.mem_of_getElem? (i := 13) (by decide +kernel))
theorem ws_Bo_operand : Cond.selects "PotentialBench$Body" y_Bo_operand y_Bo_operand ∈ gt := gt_p (q := (⟨"PotentialBench$Body", "operand", "(I)I"⟩, 9)) (List.mem_of_getElem? (i := 14) (by decide +kernel))
theorem ws_Ru_slot : Cond.selects "PotentialBench$Runner" y_Ru_slot y_Ru_slot ∈ gt := gt_p (q := (⟨"PotentialBench$Runner", "slot", "(I)I"⟩, 12)) (List.mem_of_getElem? (i := 15) (by decide +kernel))
theorem ws_Ru_hand : Cond.selects "PotentialBench$Runner" y_Ru_hand y_Ru_hand ∈ gt := gt_p (q := (⟨"PotentialBench$Runner", "hand", "(LPotentialBench$Body;)V"⟩, 12)) (List.mem_of_getElem? (i := 16) (by decide +kernel))
theorem ws_Bo_handed : Cond.selects "PotentialBench$Body" y_Bo_handed y_Bo_handed ∈ gt := gt_p (q := (⟨"PotentialBench$Body", "handed", "(II)I"⟩, 9)) (List.mem_of_getElem? (i := 17) (by decide +kernel))
theorem ws_Ru_goInside : Cond.selects "PotentialBench$Runner" y_Ru_goInside y_Ru_goInside ∈ gt := gt_p (q := (⟨"PotentialBench$Runner", "goInside", "(LPotentialBench$Body;I)V"⟩, 12)) (List.mem_of_getElem? (i := 18) (by decide +kernel))
theorem ws_Ru_passOn : Cond.selects "PotentialBench$Runner" y_Ru_passOn y_Ru_passOn ∈ gt := gt_p (q := (⟨"PotentialBench$Runner", "passOn", "()Z"⟩, 12)) (List.mem_of_getElem? (i := 19) (by decide +kernel))
theorem ws_Ne_gather : Cond.selects "PotentialBench$Needs" y_Ne_gather y_Ne_gather ∈ gt := gt_p (q := (⟨"PotentialBench$Needs", "gather", "(I)Z"⟩, 12)) (List.mem_of_getElem? (i := 20) (by decide +kernel))
theorem ws_Ne_goThrough : Cond.selects "PotentialBench$Needs" y_Ne_goThrough y_Ne_goThrough ∈ gt := gt_p (q := (⟨"PotentialBench$Needs", "goThrough", "(I)V"⟩, 12)) (List.mem_of_getElem? (i := 21) (by decide +kernel))
theorem ws_Ne_bringsOf : Cond.selects "PotentialBench$Needs" y_Ne_bringsOf y_Ne_bringsOf ∈ gt := gt_p (q := (⟨"PotentialBench$Needs", "bringsOf", "(I)I"⟩, 12)) (List.mem_of_getElem? (i := 22) (by decide +kernel))
theorem ws_Ne_paysOf : Cond.selects "PotentialBench$Needs" y_Ne_paysOf y_Ne_paysOf ∈ gt := gt_p (q := (⟨"PotentialBench$Needs", "paysOf", "(I)I"⟩, 12)) (List.mem_of_getElem? (i := 23) (by decide +kernel))
theorem ws_Ne_leavesOf : Cond.selects "PotentialBench$Needs" y_Ne_leavesOf y_Ne_leavesOf ∈ gt := gt_p (q := (⟨"PotentialBench$Needs", "leavesOf", "(I)I"⟩, 12)) (List.mem_of_getElem? (i := 24) (by decide +kernel))
theorem ws_Ne_clear : Cond.selects "PotentialBench$Needs" y_Ne_clear y_Ne_clear ∈ gt := gt_p (q := (⟨"PotentialBench$Needs", "clear", "(I)V"⟩, 12)) (List.mem_of_getElem? (i := 25) (by decide +kernel))
theorem ws_Ne_sum : Cond.selects "PotentialBench$Needs" y_Ne_sum y_Ne_sum ∈ gt := gt_p (q := (⟨"PotentialBench$Needs", "sum", "(II)[I"⟩, 12)) (List.mem_of_getElem? (i := 26) (by decide +kernel))
theorem ws_Ne_add : Cond.selects "PotentialBench$Needs" y_Ne_add y_Ne_add ∈ gt := gt_p (q := (⟨"PotentialBench$Needs", "add", "(III)V"⟩, 12)) (List.mem_of_getElem? (i := 27) (by decide +kernel))
theorem ws_Ne_addBranches : Cond.selects "PotentialBench$Needs" y_Ne_addBranches y_Ne_addBranches ∈ gt := gt_p (q := (⟨"PotentialBench$Needs", "addBranches", "(III)V"⟩, 12)) (List.mem_of_getElem? (i := 28) (by decide +kernel))
theorem ws_Bo_others : Cond.selects "PotentialBench$Body" y_Bo_others y_Bo_others ∈ gt := gt_p (q := (⟨"PotentialBench$Body", "others", "(I)I"⟩, 9)) (List.mem_of_getElem? (i := 29) (by decide +kernel))
theorem ws_Ne_handDown : Cond.selects "PotentialBench$Needs" y_Ne_handDown y_Ne_handDown ∈ gt := gt_p (q := (⟨"PotentialBench$Needs", "handDown", "(I)V"⟩, 12)) (List.mem_of_getElem? (i := 30) (by decide +kernel))
theorem ws_Ne_atLeast : Cond.selects "PotentialBench$Needs" y_Ne_atLeast y_Ne_atLeast ∈ gt := gt_p (q := (⟨"PotentialBench$Needs", "atLeast", "(I[I)[I"⟩, 12)) (List.mem_of_getElem? (i := 31) (by decide +kernel))
theorem ws_Ne_coverOthers : Cond.selects "PotentialBench$Needs" y_Ne_coverOthers y_Ne_coverOthers ∈ gt := gt_p (q := (⟨"PotentialBench$Needs", "coverOthers", "(III)V"⟩, 12)) (List.mem_of_getElem? (i := 32) (by decide +kernel))
theorem ws_Ne_needOthers : Cond.selects "PotentialBench$Needs" y_Ne_needOthers y_Ne_needOthers ∈ gt := gt_p (q := (⟨"PotentialBench$Needs", "needOthers", "(III)V"⟩, 12)) (List.mem_of_getElem? (i := 33) (by decide +kernel))
theorem ws_Ne_addCall : Cond.selects "PotentialBench$Needs" y_Ne_addCall y_Ne_addCall ∈ gt := gt_p (q := (⟨"PotentialBench$Needs", "addCall", "(III)V"⟩, 12)) (List.mem_of_getElem? (i := 34) (by decide +kernel))
theorem ws_Ne_addThen : Cond.selects "PotentialBench$Needs" y_Ne_addThen y_Ne_addThen ∈ gt := gt_p (q := (⟨"PotentialBench$Needs", "addThen", "(III)V"⟩, 12)) (List.mem_of_getElem? (i := 35) (by decide +kernel))
theorem ws_Ne_addOnePart : Cond.selects "PotentialBench$Needs" y_Ne_addOnePart y_Ne_addOnePart ∈ gt := gt_p (q := (⟨"PotentialBench$Needs", "addOnePart", "(III)V"⟩, 12)) (List.mem_of_getElem? (i := 36) (by decide +kernel))
theorem ws_So_load : Cond.selects "PotentialBench$Solver" y_So_load y_So_load ∈ gt := gt_p (q := (⟨"PotentialBench$Solver", "load", "(LPotentialBench$Needs;II)V"⟩, 14)) (List.mem_of_getElem? (i := 37) (by decide +kernel))
theorem ws_Wh_trim : Cond.selects "PotentialBench$Whole" y_Wh_trim y_Wh_trim ∈ gt := gt_p (q := (⟨"PotentialBench$Whole", "trim", "(I)V"⟩, 3)) (List.mem_of_getElem? (i := 38) (by decide +kernel))
theorem ws_So_cell : Cond.selects "PotentialBench$Solver" y_So_cell y_So_cell ∈ gt := gt_p (q := (⟨"PotentialBench$Solver", "cell", "(II)LPotentialBench$Whole;"⟩, 14)) (List.mem_of_getElem? (i := 39) (by decide +kernel))
theorem ws_So_loadRow : Cond.selects "PotentialBench$Solver" y_So_loadRow y_So_loadRow ∈ gt := gt_p (q := (⟨"PotentialBench$Solver", "loadRow", "([I)V"⟩, 14)) (List.mem_of_getElem? (i := 40) (by decide +kernel))
theorem ws_So_solve : Cond.selects "PotentialBench$Solver" y_So_solve y_So_solve ∈ gt := gt_p (q := (⟨"PotentialBench$Solver", "solve", "()Z"⟩, 14)) (List.mem_of_getElem? (i := 41) (by decide +kernel))
theorem ws_So_lowestRow : Cond.selects "PotentialBench$Solver" y_So_lowestRow y_So_lowestRow ∈ gt := gt_p (q := (⟨"PotentialBench$Solver", "lowestRow", "()I"⟩, 14)) (List.mem_of_getElem? (i := 42) (by decide +kernel))
theorem ws_Wh_compareAmount : Cond.selects "PotentialBench$Whole" y_Wh_compareAmount y_Wh_compareAmount ∈ gt := gt_p (q := (⟨"PotentialBench$Whole", "compareAmount", "(LPotentialBench$Whole;)I"⟩, 3)) (List.mem_of_getElem? (i := 43) (by decide +kernel))
theorem ws_So_entering : Cond.selects "PotentialBench$Solver" y_So_entering y_So_entering ∈ gt := gt_p (q := (⟨"PotentialBench$Solver", "entering", "(I)I"⟩, 14)) (List.mem_of_getElem? (i := 44) (by decide +kernel))
theorem ws_So_isDearer : Cond.selects "PotentialBench$Solver" y_So_isDearer y_So_isDearer ∈ gt := gt_p (q := (⟨"PotentialBench$Solver", "isDearer", "(III)Z"⟩, 14)) (List.mem_of_getElem? (i := 45) (by decide +kernel))
theorem ws_So_compareIn : Cond.selects "PotentialBench$Solver" y_So_compareIn y_So_compareIn ∈ gt := gt_p (q := (⟨"PotentialBench$Solver", "compareIn", "(IIII)I"⟩, 14)) (List.mem_of_getElem? (i := 46) (by decide +kernel))
theorem ws_Wh_room : Cond.selects "PotentialBench$Whole" y_Wh_room y_Wh_room ∈ gt := gt_p (q := (⟨"PotentialBench$Whole", "room", "(I)V"⟩, 3)) (List.mem_of_getElem? (i := 47) (by decide +kernel))
theorem ws_So_exchange : Cond.selects "PotentialBench$Solver" y_So_exchange y_So_exchange ∈ gt := gt_p (q := (⟨"PotentialBench$Solver", "exchange", "(II)V"⟩, 14)) (List.mem_of_getElem? (i := 48) (by decide +kernel))
theorem ws_So_put : Cond.selects "PotentialBench$Solver" y_So_put y_So_put ∈ gt := gt_p (q := (⟨"PotentialBench$Solver", "put", "(LPotentialBench$Whole;LPotentialBench$Whole;LPotentialBench$Whole;)V"⟩, 14)) (List.mem_of_getElem? (i := 49) (by decide +kernel))
theorem ws_Wh_addAmount : Cond.selects "PotentialBench$Whole" y_Wh_addAmount y_Wh_addAmount ∈ gt := gt_p (q := (⟨"PotentialBench$Whole", "addAmount", "(LPotentialBench$Whole;)V"⟩, 3)) (List.mem_of_getElem? (i := 50) (by decide +kernel))
theorem ws_Wh_digit : Cond.selects "PotentialBench$Whole" y_Wh_digit y_Wh_digit ∈ gt := gt_p (q := (⟨"PotentialBench$Whole", "digit", "(I)I"⟩, 3)) (List.mem_of_getElem? (i := 51) (by decide +kernel))
theorem ws_Wh_differ : Cond.selects "PotentialBench$Whole" y_Wh_differ y_Wh_differ ∈ gt := gt_p (q := (⟨"PotentialBench$Whole", "differ", "(LPotentialBench$Whole;LPotentialBench$Whole;)V"⟩, 3)) (List.mem_of_getElem? (i := 52) (by decide +kernel))
theorem ws_Wh_divideByDigit : Cond.selects "PotentialBench$Whole" y_Wh_divideByDigit y_Wh_divideByDigit ∈ gt := gt_p (q := (⟨"PotentialBench$Whole", "divideByDigit", "(I)V"⟩, 3)) (List.mem_of_getElem? (i := 53) (by decide +kernel))
theorem ws_Wh_bitsFree : Cond.selects "PotentialBench$Whole" y_Wh_bitsFree y_Wh_bitsFree ∈ gt := gt_p (q := (⟨"PotentialBench$Whole", "bitsFree", "()I"⟩, 3)) (List.mem_of_getElem? (i := 54) (by decide +kernel))
theorem ws_Wh_shift : Cond.selects "PotentialBench$Whole" y_Wh_shift y_Wh_shift ∈ gt := gt_p (q := (⟨"PotentialBench$Whole", "shift", "(LPotentialBench$Whole;I)V"⟩, 3)) (List.mem_of_getElem? (i := 55) (by decide +kernel))
theorem ws_Wh_guess : Cond.selects "PotentialBench$Whole" y_Wh_guess y_Wh_guess ∈ gt := gt_p (q := (⟨"PotentialBench$Whole", "guess", "(LPotentialBench$Whole;II)J"⟩, 3)) (List.mem_of_getElem? (i := 56) (by decide +kernel))
theorem ws_Wh_takeOff : Cond.selects "PotentialBench$Whole" y_Wh_takeOff y_Wh_takeOff ∈ gt := gt_p (q := (⟨"PotentialBench$Whole", "takeOff", "(LPotentialBench$Whole;IIJ)J"⟩, 3)) (List.mem_of_getElem? (i := 57) (by decide +kernel))
theorem ws_So_swapUnknowns : Cond.selects "PotentialBench$Solver" y_So_swapUnknowns y_So_swapUnknowns ∈ gt := gt_p (q := (⟨"PotentialBench$Solver", "swapUnknowns", "(II)V"⟩, 14)) (List.mem_of_getElem? (i := 58) (by decide +kernel))
theorem ws_Be_take : Cond.selects "PotentialBench$Best" y_Be_take y_Be_take ∈ gt := gt_p (q := (⟨"PotentialBench$Best", "take", "(LPotentialBench$Solver;)V"⟩, 8)) (List.mem_of_getElem? (i := 59) (by decide +kernel))
theorem ws_So_tell : Cond.selects "PotentialBench$Solver" y_So_tell y_So_tell ∈ gt := gt_p (q := (⟨"PotentialBench$Solver", "tell", "(ILPotentialBench$Whole;)V"⟩, 14)) (List.mem_of_getElem? (i := 60) (by decide +kernel))
theorem ws_Be_has : Cond.selects "PotentialBench$Best" y_Be_has y_Be_has ∈ gt := gt_p (q := (⟨"PotentialBench$Best", "has", "(I)Z"⟩, 8)) (List.mem_of_getElem? (i := 61) (by decide +kernel))
theorem ws_Be_doubled : Cond.selects "PotentialBench$Best" y_Be_doubled y_Be_doubled ∈ gt := gt_p (q := (⟨"PotentialBench$Best", "doubled", "(II)J"⟩, 8)) (List.mem_of_getElem? (i := 62) (by decide +kernel))
theorem ws_Be_reaches : Cond.selects "PotentialBench$Best" y_Be_reaches y_Be_reaches ∈ gt := gt_p (q := (⟨"PotentialBench$Best", "reaches", "(IIIJ)Z"⟩, 8)) (List.mem_of_getElem? (i := 63) (by decide +kernel))
theorem ws_Be_addTimes : Cond.selects "PotentialBench$Best" y_Be_addTimes y_Be_addTimes ∈ gt := gt_p (q := (⟨"PotentialBench$Best", "addTimes", "(II)V"⟩, 8)) (List.mem_of_getElem? (i := 64) (by decide +kernel))
theorem ws_Mo_isFunction : Cond.selects "PotentialBenchModel" y_Mo_isFunction y_Mo_isFunction ∈ gt := gt_p (q := (⟨"PotentialBenchModel", "isFunction", "(I)Z"⟩, 61)) (List.mem_of_getElem? (i := 65) (by decide +kernel))
theorem ws_Mo_wrong : Cond.selects "PotentialBenchModel" y_Mo_wrong y_Mo_wrong ∈ gt := gt_p (q := (⟨"PotentialBenchModel", "wrong", "(I)I"⟩, 61)) (List.mem_of_getElem? (i := 66) (by decide +kernel))
theorem ws_Mo_wrongHead : Cond.selects "PotentialBenchModel" y_Mo_wrongHead y_Mo_wrongHead ∈ gt := gt_p (q := (⟨"PotentialBenchModel", "wrongHead", "(III)I"⟩, 61)) (List.mem_of_getElem? (i := 67) (by decide +kernel))
theorem ws_Mo_headOf : Cond.selects "PotentialBenchModel" y_Mo_headOf y_Mo_headOf ∈ gt := gt_p (q := (⟨"PotentialBenchModel", "headOf", "(II)I"⟩, 61)) (List.mem_of_getElem? (i := 68) (by decide +kernel))
theorem ws_Mo_close : Cond.selects "PotentialBenchModel" y_Mo_close y_Mo_close ∈ gt := gt_p (q := (⟨"PotentialBenchModel", "close", "(II)Z"⟩, 61)) (List.mem_of_getElem? (i := 69) (by decide +kernel))
theorem ws_Mo_knownBehind : Cond.selects "PotentialBenchModel" y_Mo_knownBehind y_Mo_knownBehind ∈ gt := gt_p (q := (⟨"PotentialBenchModel", "knownBehind", "(I)I"⟩, 61)) (List.mem_of_getElem? (i := 70) (by decide +kernel))
theorem ws_Mo_isRight : Cond.selects "PotentialBenchModel" y_Mo_isRight y_Mo_isRight ∈ gt := gt_p (q := (⟨"PotentialBenchModel", "isRight", "()Z"⟩, 61)) (List.mem_of_getElem? (i := 71) (by decide +kernel))
theorem ws_Mo_enter : Cond.selects "PotentialBenchModel" y_Mo_enter y_Mo_enter ∈ gt := gt_p (q := (⟨"PotentialBenchModel", "enter", "(II)V"⟩, 61)) (List.mem_of_getElem? (i := 72) (by decide +kernel))
theorem ws_Mo_beginOne : Cond.selects "PotentialBenchModel" y_Mo_beginOne y_Mo_beginOne ∈ gt := gt_p (q := (⟨"PotentialBenchModel", "beginOne", "()V"⟩, 61)) (List.mem_of_getElem? (i := 73) (by decide +kernel))
theorem ws_Mo_wait : Cond.selects "PotentialBenchModel" y_Mo_wait y_Mo_wait ∈ gt := gt_p (q := (⟨"PotentialBenchModel", "wait", "(II)V"⟩, 61)) (List.mem_of_getElem? (i := 74) (by decide +kernel))
theorem ws_Mo_giveOn : Cond.selects "PotentialBenchModel" y_Mo_giveOn y_Mo_giveOn ∈ gt := gt_p (q := (⟨"PotentialBenchModel", "giveOn", "()V"⟩, 61)) (List.mem_of_getElem? (i := 75) (by decide +kernel))
theorem ws_Mo_needBody : Cond.selects "PotentialBenchModel" y_Mo_needBody y_Mo_needBody ∈ gt := gt_p (q := (⟨"PotentialBenchModel", "needBody", "(I)V"⟩, 61)) (List.mem_of_getElem? (i := 76) (by decide +kernel))
theorem ws_Mo_clear : Cond.selects "PotentialBenchModel" y_Mo_clear y_Mo_clear ∈ gt := gt_p (q := (⟨"PotentialBenchModel", "clear", "(I)V"⟩, 61)) (List.mem_of_getElem? (i := 77) (by decide +kernel))
theorem ws_Mo_unknown : Cond.selects "PotentialBenchModel" y_Mo_unknown y_Mo_unknown ∈ gt := gt_p (q := (⟨"PotentialBenchModel", "unknown", "(II)I"⟩, 61)) (List.mem_of_getElem? (i := 78) (by decide +kernel))
theorem ws_Mo_needOf : Cond.selects "PotentialBenchModel" y_Mo_needOf y_Mo_needOf ∈ gt := gt_p (q := (⟨"PotentialBenchModel", "needOf", "(III)I"⟩, 61)) (List.mem_of_getElem? (i := 79) (by decide +kernel))
theorem ws_Mo_openNeed : Cond.selects "PotentialBenchModel" y_Mo_openNeed y_Mo_openNeed ∈ gt := gt_p (q := (⟨"PotentialBenchModel", "openNeed", "(IIII)V"⟩, 61)) (List.mem_of_getElem? (i := 80) (by decide +kernel))
theorem ws_Mo_newBlock : Cond.selects "PotentialBenchModel" y_Mo_newBlock y_Mo_newBlock ∈ gt := gt_p (q := (⟨"PotentialBenchModel", "newBlock", "(II)I"⟩, 61)) (List.mem_of_getElem? (i := 81) (by decide +kernel))
theorem ws_Mo_copy : Cond.selects "PotentialBenchModel" y_Mo_copy y_Mo_copy ∈ gt := gt_p (q := (⟨"PotentialBenchModel", "copy", "(II)V"⟩, 61)) (List.mem_of_getElem? (i := 82) (by decide +kernel))
theorem ws_Mo_firstOf : Cond.selects "PotentialBenchModel" y_Mo_firstOf y_Mo_firstOf ∈ gt := gt_p (q := (⟨"PotentialBenchModel", "firstOf", "(IIII)V"⟩, 61)) (List.mem_of_getElem? (i := 83) (by decide +kernel))
theorem ws_Mo_add : Cond.selects "PotentialBenchModel" y_Mo_add y_Mo_add ∈ gt := gt_p (q := (⟨"PotentialBenchModel", "add", "(II)V"⟩, 61)) (List.mem_of_getElem? (i := 84) (by decide +kernel))
theorem ws_Mo_needCall : Cond.selects "PotentialBenchModel" y_Mo_needCall y_Mo_needCall ∈ gt := gt_p (q := (⟨"PotentialBenchModel", "needCall", "(III)V"⟩, 61)) (List.mem_of_getElem? (i := 85) (by decide +kernel))
theorem ws_Mo_newUnknown : Cond.selects "PotentialBenchModel" y_Mo_newUnknown y_Mo_newUnknown ∈ gt := gt_p (q := (⟨"PotentialBenchModel", "newUnknown", "()I"⟩, 61)) (List.mem_of_getElem? (i := 86) (by decide +kernel))
theorem ws_Mo_newCondition : Cond.selects "PotentialBenchModel" y_Mo_newCondition y_Mo_newCondition ∈ gt := gt_p (q := (⟨"PotentialBenchModel", "newCondition", "()I"⟩, 61)) (List.mem_of_getElem? (i := 87) (by decide +kernel))
theorem ws_Mo_take : Cond.selects "PotentialBenchModel" y_Mo_take y_Mo_take ∈ gt := gt_p (q := (⟨"PotentialBenchModel", "take", "(II)V"⟩, 61)) (List.mem_of_getElem? (i := 88) (by decide +kernel))
theorem ws_Mo_atLeast : Cond.selects "PotentialBenchModel" y_Mo_atLeast y_Mo_atLeast ∈ gt := gt_p (q := (⟨"PotentialBenchModel", "atLeast", "(II)V"⟩, 61)) (List.mem_of_getElem? (i := 89) (by decide +kernel))
theorem ws_Mo_endNeed : Cond.selects "PotentialBenchModel" y_Mo_endNeed y_Mo_endNeed ∈ gt := gt_p (q := (⟨"PotentialBenchModel", "endNeed", "()V"⟩, 61)) (List.mem_of_getElem? (i := 90) (by decide +kernel))
theorem ws_Mo_secondOf : Cond.selects "PotentialBenchModel" y_Mo_secondOf y_Mo_secondOf ∈ gt := gt_p (q := (⟨"PotentialBenchModel", "secondOf", "(IIII)V"⟩, 61)) (List.mem_of_getElem? (i := 91) (by decide +kernel))
theorem ws_Mo_keepAll : Cond.selects "PotentialBenchModel" y_Mo_keepAll y_Mo_keepAll ∈ gt := gt_p (q := (⟨"PotentialBenchModel", "keepAll", "(II)V"⟩, 61)) (List.mem_of_getElem? (i := 92) (by decide +kernel))
theorem ws_Mo_thirdOf : Cond.selects "PotentialBenchModel" y_Mo_thirdOf y_Mo_thirdOf ∈ gt := gt_p (q := (⟨"PotentialBenchModel", "thirdOf", "(IIII)V"⟩, 61)) (List.mem_of_getElem? (i := 93) (by decide +kernel))
theorem ws_Mo_needMatch : Cond.selects "PotentialBenchModel" y_Mo_needMatch y_Mo_needMatch ∈ gt := gt_p (q := (⟨"PotentialBenchModel", "needMatch", "(IIIIII)V"⟩, 61)) (List.mem_of_getElem? (i := 94) (by decide +kernel))
theorem ws_Mo_isNamed : Cond.selects "PotentialBenchModel" y_Mo_isNamed y_Mo_isNamed ∈ gt := gt_p (q := (⟨"PotentialBenchModel", "isNamed", "(IIII)Z"⟩, 61)) (List.mem_of_getElem? (i := 95) (by decide +kernel))
theorem ws_Mo_lay : Cond.selects "PotentialBenchModel" y_Mo_lay y_Mo_lay ∈ gt := gt_p (q := (⟨"PotentialBenchModel", "lay", "(I)V"⟩, 61)) (List.mem_of_getElem? (i := 96) (by decide +kernel))
theorem ws_Mo_put : Cond.selects "PotentialBenchModel" y_Mo_put y_Mo_put ∈ gt := gt_p (q := (⟨"PotentialBenchModel", "put", "(IJ)V"⟩, 61)) (List.mem_of_getElem? (i := 97) (by decide +kernel))
theorem ws_Mo_reach : Cond.selects "PotentialBenchModel" y_Mo_reach y_Mo_reach ∈ gt := gt_p (q := (⟨"PotentialBenchModel", "reach", "()Z"⟩, 61)) (List.mem_of_getElem? (i := 98) (by decide +kernel))
theorem ws_Mo_exchange : Cond.selects "PotentialBenchModel" y_Mo_exchange y_Mo_exchange ∈ gt := gt_p (q := (⟨"PotentialBenchModel", "exchange", "(II)V"⟩, 61)) (List.mem_of_getElem? (i := 99) (by decide +kernel))
theorem ws_Mo_signOf : Cond.selects "PotentialBenchModel" y_Mo_signOf y_Mo_signOf ∈ gt := gt_p (q := (⟨"PotentialBenchModel", "signOf", "(I)I"⟩, 61)) (List.mem_of_getElem? (i := 100) (by decide +kernel))
theorem ws_Mo_rowBy : Cond.selects "PotentialBenchModel" y_Mo_rowBy y_Mo_rowBy ∈ gt := gt_p (q := (⟨"PotentialBenchModel", "rowBy", "(IIIZ)V"⟩, 61)) (List.mem_of_getElem? (i := 101) (by decide +kernel))
theorem ws_Mo_turn : Cond.selects "PotentialBenchModel" y_Mo_turn y_Mo_turn ∈ gt := gt_p (q := (⟨"PotentialBenchModel", "turn", "(I)V"⟩, 61)) (List.mem_of_getElem? (i := 102) (by decide +kernel))
theorem ws_Mo_times : Cond.selects "PotentialBenchModel" y_Mo_times y_Mo_times ∈ gt := gt_p (q := (⟨"PotentialBenchModel", "times", "(II[I)I"⟩, 61)) (List.mem_of_getElem? (i := 103) (by decide +kernel))
theorem ws_Mo_join : Cond.selects "PotentialBenchModel" y_Mo_join y_Mo_join ∈ gt := gt_p (q := (⟨"PotentialBenchModel", "join", "()V"⟩, 61)) (List.mem_of_getElem? (i := 104) (by decide +kernel))
theorem ws_Mo_addRows : Cond.selects "PotentialBenchModel" y_Mo_addRows y_Mo_addRows ∈ gt := gt_p (q := (⟨"PotentialBenchModel", "addRows", "()V"⟩, 61)) (List.mem_of_getElem? (i := 105) (by decide +kernel))
theorem ws_Mo_shiftInto : Cond.selects "PotentialBenchModel" y_Mo_shiftInto y_Mo_shiftInto ∈ gt := gt_p (q := (⟨"PotentialBenchModel", "shiftInto", "(III)V"⟩, 61)) (List.mem_of_getElem? (i := 106) (by decide +kernel))
theorem ws_Mo_raise : Cond.selects "PotentialBenchModel" y_Mo_raise y_Mo_raise ∈ gt := gt_p (q := (⟨"PotentialBenchModel", "raise", "(I)V"⟩, 61)) (List.mem_of_getElem? (i := 107) (by decide +kernel))
theorem ws_Mo_digit : Cond.selects "PotentialBenchModel" y_Mo_digit y_Mo_digit ∈ gt := gt_p (q := (⟨"PotentialBenchModel", "digit", "(II)I"⟩, 61)) (List.mem_of_getElem? (i := 108) (by decide +kernel))
theorem ws_Mo_swapOne : Cond.selects "PotentialBenchModel" y_Mo_swapOne y_Mo_swapOne ∈ gt := gt_p (q := (⟨"PotentialBenchModel", "swapOne", "(IZ)V"⟩, 61)) (List.mem_of_getElem? (i := 109) (by decide +kernel))
theorem ws_Mo_coming : Cond.selects "PotentialBenchModel" y_Mo_coming y_Mo_coming ∈ gt := gt_p (q := (⟨"PotentialBenchModel", "coming", "(II)I"⟩, 61)) (List.mem_of_getElem? (i := 110) (by decide +kernel))
theorem ws_Mo_giving : Cond.selects "PotentialBenchModel" y_Mo_giving y_Mo_giving ∈ gt := gt_p (q := (⟨"PotentialBenchModel", "giving", "(I)I"⟩, 61)) (List.mem_of_getElem? (i := 111) (by decide +kernel))
theorem ws_Mo_shareOf : Cond.selects "PotentialBenchModel" y_Mo_shareOf y_Mo_shareOf ∈ gt := gt_p (q := (⟨"PotentialBenchModel", "shareOf", "(III)I"⟩, 61)) (List.mem_of_getElem? (i := 112) (by decide +kernel))
theorem ws_Mo_improve : Cond.selects "PotentialBenchModel" y_Mo_improve y_Mo_improve ∈ gt := gt_p (q := (⟨"PotentialBenchModel", "improve", "()V"⟩, 61)) (List.mem_of_getElem? (i := 113) (by decide +kernel))
theorem ws_Mo_boundAt : Cond.selects "PotentialBenchModel" y_Mo_boundAt y_Mo_boundAt ∈ gt := gt_p (q := (⟨"PotentialBenchModel", "boundAt", "(I)I"⟩, 61)) (List.mem_of_getElem? (i := 114) (by decide +kernel))
theorem ws_Mo_sum : Cond.selects "PotentialBenchModel" y_Mo_sum y_Mo_sum ∈ gt := gt_p (q := (⟨"PotentialBenchModel", "sum", "(IIIII)V"⟩, 61)) (List.mem_of_getElem? (i := 115) (by decide +kernel))
end
section
/-! an array of arrays of numbers (multianewarray of two dimensions): the row that the kit has not -/
def mz_o (cA : ClassId) (N b i : Nat) : Cell := arrV cA N (fun j => if j < i then .ref (b + 1 + j) else .null)
def mz_t (T : State) (cA comp : ClassId) (N M : Nat) (dv : Value) : Nat → State
  | 0 => T.pushCell (mz_o cA N T.heap.size 0)
  | i + 1 => ((mz_t T cA comp N M dv i).pushCell (arrV comp M (fun _ => dv))).setCell T.heap.size (mz_o cA N T.heap.size (i + 1))
theorem mz_o_set (cA : ClassId) (N b i : Nat) : (mz_o cA N b i).setSlot i (.ref (b + 1 + i)) = mz_o cA N b (i + 1) := by
  rw [mz_o, arrV_store]
  show arrV cA N _ = arrV cA N _
  congr 1
  funext j
  by_cases h : j = i
  · subst h
    simp [updV]
  · by_cases h2 : j < i
    · have h3 : j < i + 1 := by omega
      simp [updV, h, h2, h3]
    · have h3 : ¬ j < i + 1 := by omega
      simp [updV, h, h2, h3]
theorem mz_size (T : State) (cA comp : ClassId) (N M : Nat) (dv : Value) : ∀ i, (mz_t T cA comp N M dv i).heap.size = T.heap.size + 1 + i
  | 0 => by simp [mz_t]
  | i + 1 => by
    have h := mz_size T cA comp N M dv i
    simp [mz_t, State.setCell, h]
    omega
theorem mz_vm (T : State) (cA comp : ClassId) (N M : Nat) (dv : Value) : ∀ i, (mz_t T cA comp N M dv i).vm = T.vm
  | 0 => rfl
  | i + 1 => by
    have h := mz_vm T cA comp N M dv i
    simp [mz_t, h]
theorem mz_used (T : State) (cA comp : ClassId) (N M : Nat) (dv : Value) : ∀ i, (mz_t T cA comp N M dv i).slotsUsed = T.slotsUsed + N + i * M
  | 0 => by simp [mz_t, mz_o, arrV_size]
  | i + 1 => by
    have h := mz_used T cA comp N M dv i
    simp [mz_t, h, arrV_size, Nat.succ_mul]
    omega
theorem mz_top (T : State) (g : JFrame) (cA comp : ClassId) (N M : Nat) (dv : Value) : ∀ i, mz_t (T.setTop g) cA comp N M dv i = (mz_t T cA comp N M dv i).setTop g
  | 0 => rfl
  | i + 1 => by
    simp only [mz_t, mz_top T g cA comp N M dv i, State.heap_setTop, State.pushCell_setTop, State.setCell_setTop]
theorem mz_outer (T : State) (cA comp : ClassId) (N M : Nat) (dv : Value) : ∀ i, (mz_t T cA comp N M dv i).heap[T.heap.size]? = some (mz_o cA N T.heap.size i)
  | 0 => by simp [mz_t]
  | i + 1 => by
    have h := mz_outer T cA comp N M dv i
    have hs := mz_size T cA comp N M dv i
    have hlt : T.heap.size < (mz_t T cA comp N M dv i).heap.size := by rw [hs]; omega
    refine State.heap_setCell_self (c := mz_o cA N T.heap.size i) ?_
    rw [State.heap_pushCell_of_lt (h := hlt)]
    exact h
theorem mz_old (T : State) (cA comp : ClassId) (N M : Nat) (dv : Value) {a : Addr} (ha : a < T.heap.size) : ∀ i, (mz_t T cA comp N M dv i).heap[a]? = T.heap[a]?
  | 0 => State.heap_pushCell_of_lt _ _ ha
  | i + 1 => by
    have h := mz_old T cA comp N M dv ha i
    have hs := mz_size T cA comp N M dv i
    have hlt : a < (mz_t T cA comp N M dv i).heap.size := Nat.lt_of_lt_of_le ha (by rw [hs]; omega)
    show (((mz_t T cA comp N M dv i).pushCell _).setCell T.heap.size _).heap[a]? = _
    rw [State.heap_setCell_other (Nat.ne_of_gt ha), State.heap_pushCell_of_lt (h := hlt)]
    exact h
theorem mz_row (T : State) (cA comp : ClassId) (N M : Nat) (dv : Value) : ∀ i j, j < i → (mz_t T cA comp N M dv i).heap[T.heap.size + 1 + j]? = some (arrV comp M (fun _ => dv))
  | 0, _, h => absurd h (Nat.not_lt_zero _)
  | i + 1, j, hj => by
    have hs := mz_size T cA comp N M dv i
    show (((mz_t T cA comp N M dv i).pushCell _).setCell T.heap.size _).heap[T.heap.size + 1 + j]? = _
    rw [State.heap_setCell_other (show T.heap.size ≠ T.heap.size + 1 + j by omega)]
    by_cases h : j < i
    · have hlt : T.heap.size + 1 + j < (mz_t T cA comp N M dv i).heap.size := by rw [hs]; omega
      rw [State.heap_pushCell_of_lt (h := hlt)]
      exact mz_row T cA comp N M dv i j h
    · have e : j = i := by omega
      subst e
      rw [← hs]
      exact State.heap_pushCell_size _ _
theorem mz_stand {p : Program} {l : Launch} {e : Env} {R : Room} {s : State} {m : MethodId} {args : Array Value} {below : List Frame} {meth : Method} {c : Code} {T : State} {locs : List Loc} {cells slots : Nat} (X : Stand p l e R s m args below meth c T locs cells slots) (cA comp : ClassId) (N M : Nat) (dv : Value) :
    ∀ i, Stand p l e R s m args below meth c (mz_t T cA comp N M dv i) (locs ++ (List.range i).map fun j => ⟨T.heap.size, j⟩) (cells + 1 + i) (slots + N + i * M)
  | 0 => by
    have h := X.pushed (mz_o cA N T.heap.size 0)
    have hz : (mz_o cA N T.heap.size 0).slots.size = N := arrV_size _ _ _
    rw [hz] at h
    simpa [mz_t] using h
  | i + 1 => by
    have Xi := mz_stand X cA comp N M dv i
    have hs := mz_size T cA comp N M dv i
    have hc : ((mz_t T cA comp N M dv i).pushCell (arrV comp M (fun _ => dv))).heap[T.heap.size]? = some (mz_o cA N T.heap.size i) := by
      have hlt : T.heap.size < (mz_t T cA comp N M dv i).heap.size := by rw [hs]; omega
      rw [State.heap_pushCell_of_lt (h := hlt)]
      exact mz_outer T cA comp N M dv i
    have h := (Xi.pushed (arrV comp M (fun _ => dv))).stored hc i (.ref (T.heap.size + 1 + i))
    rw [mz_o_set, arrV_size] at h
    have e1 : (locs ++ (List.range (i + 1)).map fun j => (⟨T.heap.size, j⟩ : Loc)) = (locs ++ (List.range i).map fun j => (⟨T.heap.size, j⟩ : Loc)) ++ [⟨T.heap.size, i⟩] := by simp [List.range_succ, List.append_assoc]
    have e2 : slots + N + (i + 1) * M = slots + N + i * M + M := by rw [Nat.succ_mul]; omega
    rw [e1, e2]
    exact h
theorem mz_fit {t : FieldType} (h : t.isReference = true) (a : Addr) : fits t (.ref a) = true ∧ fits t .null = true := by
  cases t <;> simp [FieldType.isReference] at h <;> exact ⟨rfl, rfl⟩
theorem mz_make {E : CtlPost} {e : Env} {d : Bool} {acts : List Action} {T : State} {cA comp c1 : ClassId} {kA kC : Class} {t0 ty : FieldType} {n k : Int32} {N M : Nat} (hN : n.toNatClampNeg = N) (hM : k.toNatClampNeg = M) (hkA : T.vm.classes[cA]? = some kA) (hA : kA.kind = .array comp t0) (href : t0.isReference = true)
    (hkC : T.vm.classes[comp]? = some kC) (hC : kC.kind = .array c1 ty) (hn : ¬ n < 0) (hk : ¬ k < 0) (hl1 : ¬ N > e.platform.arrayLengthLimit) (hh1 : ¬ N * componentBytes t0 > e.platform.maxHeapBytes) (hl2 : ¬ M > e.platform.arrayLengthLimit) (hh2 : ¬ M * componentBytes ty > e.platform.maxHeapBytes)
    (hdf : fits ty (defaultValue ty) = true) (hc : T.heap.size + 1 + N ≤ e.platform.maxCells) (hs : T.slotsUsed + N + N * M ≤ e.platform.maxSlots) {Q : Addr → Pre} (hq : ∀ d' acts', Q T.heap.size d' acts' (mz_t T cA comp N M (defaultValue ty) N)) : wp (multianewarray.make cA [n, k]) Q E e d acts T := by
  subst hN
  subst hM
  have hneg : ([k].find? (· < 0)) = none := by simp [hk]
  rw [multianewarray.make]
  simp only [wp_bind', W.ite, hn, if_false, wp_pure', W.theClass, hkA, hA, Option.some.injEq, exists_eq_left']
  refine W.newArray_of hkA hA hl1 hh1 (by omega) (by have := Nat.zero_le (n.toNatClampNeg * k.toNatClampNeg); omega) (mz_fit href 0).2 (fun acts0 => ?_)
  simp only [hneg]
  rw [ite_self, wp_bind', Std.Legacy.Range.forIn_eq_forIn_range']
  have hz : ([:n.toNatClampNeg] : Std.Legacy.Range).size = n.toNatClampNeg := by simp [Std.Legacy.Range.size]
  rw [hz]
  show wp (forIn (List.range' 0 n.toNatClampNeg 1) PUnit.unit _) _ E e d acts0 _
  refine wp_forIn_inv (fun rest S => ∃ i, i + rest.length = n.toNatClampNeg ∧ rest = List.range' i rest.length ∧ S = mz_t T cA comp n.toNatClampNeg k.toNatClampNeg (defaultValue ty) i) _ _ ⟨0, by simp, by simp, by rw [mz_t, mz_o, arrV_new]; simp⟩ ?_ ?_
  · rintro x rest S d' acts' Q' ⟨i, hi, hl, rfl⟩ hnext
    rw [List.length_cons] at hi
    rw [List.length_cons, List.range'_succ] at hl
    obtain ⟨rfl, hrest⟩ := List.cons.inj hl
    have f1 := mz_size T cA comp n.toNatClampNeg k.toNatClampNeg (defaultValue ty) x
    have f2 := mz_outer T cA comp n.toNatClampNeg k.toNatClampNeg (defaultValue ty) x
    have f3 := mz_vm T cA comp n.toNatClampNeg k.toNatClampNeg (defaultValue ty) x
    have f4 := mz_used T cA comp n.toNatClampNeg k.toNatClampNeg (defaultValue ty) x
    have hmul : x * k.toNatClampNeg + k.toNatClampNeg ≤ n.toNatClampNeg * k.toNatClampNeg := by
      have := Nat.mul_le_mul_right k.toNatClampNeg (show x + 1 ≤ n.toNatClampNeg by omega)
      rw [Nat.succ_mul] at this
      exact this
    simp only [wp_bind']
    rw [multianewarray.make]
    simp only [wp_bind', W.ite, hk, if_false, wp_pure', W.theClass, f3, hkC, hC, Option.some.injEq, exists_eq_left']
    refine W.newArray_of (by rw [f3]; exact hkC) hC hl2 hh2 (by rw [f1]; omega) (by rw [f4]; omega) hdf (fun acts1 => ?_)
    simp only [wp_bind', W.writeLoc, wp_pure']
    have hlt : T.heap.size < (mz_t T cA comp n.toNatClampNeg k.toNatClampNeg (defaultValue ty) x).heap.size := by rw [f1]; omega
    refine ⟨mz_o cA n.toNatClampNeg T.heap.size x, by rw [State.heap_pushCell_of_lt (h := hlt)]; exact f2, by simp [mz_o, arrV], by rw [mz_o, arrV_size]; omega, ?_, hnext _ _ _ ⟨x + 1, by omega, hrest, ?_⟩⟩
    · simp [mz_o, arrV, State.fitsSlot, State.slotType?, f3, hkA, hA, (mz_fit href _).1]
    · rw [f1, mz_o_set, mz_t, arrV_new]
  · rintro S d' acts' ⟨i, hi, -, rfl⟩
    rw [List.length_nil, Nat.add_zero] at hi
    subst hi
    simp only [wp_pure']
    exact hq _ _
theorem mz_o_full (cA : ClassId) (N b : Nat) : mz_o cA N b N = arrV cA N (fun j => va_rf (some (b + 1 + j))) := by
  unfold mz_o arrV
  congr 1
  congr 1
  funext j
  show (if j.val < N then Value.ref (b + 1 + j.val) else Value.null) = _
  rw [if_pos j.isLt]
  rfl
section MZW
variable {p : Program} {l : Launch} {e : Env} {R : Room} {s : State} {m : MethodId} {args : Array Value} {below : List Frame} {meth : Method} {c : Code} {H : Heap} {locs : List Loc} {cells slots : Nat} {Q : State → Prop}
theorem mz_W {cc : ByteArray} (hexec : p.tables.exec = Jvm.exec) (hb : c.code = cc) {own : String} {index : Nat} {ty : FieldType} (hown : s.vm.findClass own = some m.cls) (hclink : (Cond.classLink own index ("[" ++ (FieldType.array ty).toString)).before args s = true)
    (hover : (Cond.arrayOver (.array ty)).before args s = true) (harr : (Cond.arrayClass ty).before args s = true) {pc : Nat} {ls : Array Slot} {rest : List Value} (hdg : decode cc pc = .ok (.multianewarray index 2, 4)) {n k : Int32} {N M : Nat} (hN : n.toNatClampNeg = N) (hM : k.toNatClampNeg = M) (hn : ¬ n < 0) (hk : ¬ k < 0)
    (hb1 : N * 4 ≤ 536870912) (hb2 : M * componentBytes ty ≤ 536870912) (hb3 : M ≤ 536870912) (hdf : fits ty (defaultValue ty) = true) (hcells : cells + (1 + N) ≤ R.cells) (hslots : slots + (N + N * M) ≤ R.slots) (hz : s.heap.size ≤ H.size)
    (kk : ∀ (cA comp : ClassId) (H1 : Heap), ArrOfT s cA (.array ty) → s.vm.findClass ("[" ++ (FieldType.array ty).toString) = some cA → ArrOfT s comp ty → s.vm.findClass (FieldType.array ty).toString = some comp → H1.size = H.size + 1 + N → H1[H.size]? = some (arrV cA N (fun j => va_rf (some (H.size + 1 + j)))) → (∀ j, j < N → H1[H.size + 1 + j]? = some (arrV comp M (fun _ => defaultValue ty))) → (∀ q, q < H.size → H1[q]? = H[q]?) →
      W p l e R s m args below meth c H1 locs (cells + (1 + N)) (slots + (N + N * M)) Q (F0 m (pc + 4) ls (.ref H.size :: rest))) : W p l e R s m args below meth c H locs cells slots Q (F0 m pc ls (.int k :: .int n :: rest)) := by
  intro T hT X
  subst hT; subst hb
  have hpl : e.platform.magicAccessors = ({} : Platform).magicAccessors := by rw [X.admits.platform]
  obtain ⟨comp, cA, kA, hcomp, -, hkA, hkindA, hnameA⟩ := arrayOverA_spec hover
  obtain ⟨comp', kC, c1, hcomp', hkC, hkindC⟩ := Cond.arrayClass_spec harr
  have ecomp : comp' = comp := Option.some.inj (hcomp'.symm.trans hcomp)
  subst ecomp
  obtain ⟨c0, hfc0, hcl⟩ := Cond.classLink_spec hown hclink e.platform hpl
  cases hnameA.symm.trans hfc0
  obtain ⟨hg₁, hwarm₁, hready₁⟩ := State.classEntry (e := e) X.warmed hcl
  generalize T.vm.noted m.cls index (.cls cA) = vm₁ at hg₁ hwarm₁ hready₁
  have hal : s.vm.Alike vm₁ := hwarm₁.alike
  obtain ⟨kA₁, hkA₁, heA⟩ := hal.2.2 _ _ hkA
  obtain ⟨kC₁, hkC₁, heC⟩ := hal.2.2 _ _ hkC
  have hkindA₁ : kA₁.kind = .array comp' (.array ty) := by rw [heA]; exact hkindA
  have hkindC₁ : kC₁.kind = .array c1 ty := by rw [heC]; exact hkindC
  have X₁ := X.noted hwarm₁
  obtain ⟨hr1, hr2⟩ := X.roomAbove hcells hslots
  have XF := mz_stand X₁ cA comp' N M (defaultValue ty) N
  have XG := Stand.forget (locs := locs) XF (fun q hq => by
    obtain ⟨j, -, rfl⟩ := List.mem_map.mp hq
    exact hz)
  rw [Nat.add_assoc cells 1 N, Nat.add_assoc slots N (N * M)] at XG
  have hsz := mz_size (T.setVm vm₁) cA comp' N M (defaultValue ty) N
  have hou := mz_outer (T.setVm vm₁) cA comp' N M (defaultValue ty) N
  rw [mz_o_full] at hou
  obtain ⟨t, a1, b1⟩ := kk cA comp' (mz_t (T.setVm vm₁) cA comp' N M (defaultValue ty) N).heap (fun n z => ⟨(fun k h => by cases h), kA, hkA, comp', hkindA⟩) hnameA (fun n z => ⟨(fun k h => by cases h), kC, hkC, c1, hkindC⟩) hcomp hsz hou (fun j hj => mz_row (T.setVm vm₁) cA comp' N M (defaultValue ty) N j hj) (fun q hq => mz_old (T.setVm vm₁) cA comp' N M (defaultValue ty) hq N) _ rfl XG
  refine ⟨t, ?_, b1⟩
  have hl1 : ¬ N > e.platform.arrayLengthLimit := by rw [Launch.admits_arrayLengthLimit X.admits]; omega
  have hh1 : ¬ N * componentBytes (.array ty) > e.platform.maxHeapBytes := by
    rw [Launch.admits_maxHeapBytes X.admits]; show ¬ N * 4 > 536870912; omega
  have hl2 : ¬ M > e.platform.arrayLengthLimit := by rw [Launch.admits_arrayLengthLimit X.admits]; omega
  have hh2 : ¬ M * componentBytes ty > e.platform.maxHeapBytes := by rw [Launch.admits_maxHeapBytes X.admits]; omega
  jvm_step X.here [hexec, hdg]
  simp only [multianewarray.sem, wp_bind', W.resolveClassAt_links (State.method?_setTop (F0 m pc ls (.int k :: .int n :: rest)) X.here.top) hg₁]
  rw [W.popN, if_neg (by decide)]
  refine ⟨F0 m pc ls (.int k :: .int n :: rest), State.topJava?_setTop' (s := T.setVm vm₁) _ X.here.top, [.int n, .int k], rest, rfl, rfl, ?_⟩
  simp only [List.mapM_cons, List.mapM_nil, wp_bind', wp_pure']
  refine mz_make (kA := kA₁) (kC := kC₁) (comp := comp') (c1 := c1) (t0 := .array ty) (ty := ty) hN hM hkA₁ hkindA₁ rfl hkC₁ hkindC₁ hn hk hl1 hh1 hl2 hh2 hdf (by show T.heap.size + 1 + _ ≤ _; omega) (by show T.slotsUsed + _ + _ ≤ _; omega) (fun d' acts' => ?_)
  have eS : ((T.setTop (F0 m pc ls (.int k :: .int n :: rest))).setVm vm₁).setTop (F0 m pc ls rest) = (T.setVm vm₁).setTop (F0 m pc ls rest) := by
    show ((T.setVm vm₁).setTop (F0 m pc ls (.int k :: .int n :: rest))).setTop _ = _
    rw [State.setTop_setTop]
  rw [eS, mz_top]
  simp only [wp_bind', W.mark, W.pushRef, State.topJava?_setTop' _ XF.here.top, Option.some.injEq, exists_eq_left', State.setTop_setTop, State.heap_setTop]
  intro acts
  simp [jvm, XF.here.top]
  exact a1
end MZW
section MZV
variable {p : Program} {l : Launch} {e : Env} {R : Room} {s : State} {m : MethodId} {args : Array Value} {below : List Frame} {meth : Method} {c : Code} {H : Heap} {locs : List Loc} {cells slots : Nat} {Q : State → Prop}
variable {D : va_G} {cl : List vw_C} {tys : List (ClassId × FieldType)} {ws : va_W} {A : Nat → Prop} {cc : ByteArray} {pc : Nat} {ls : Array Slot} {rest : List Value}
/-- the rows of ints of a new array of arrays stand behind it -/
def mz_rows (q N : Nat) : List Nat := (List.range N).map (fun j => q + 1 + j)
theorem mz_int (hexec : p.tables.exec = Jvm.exec) (hb : c.code = cc) {own : String} {index : Nat} (hown : s.vm.findClass own = some m.cls) (hclink : (Cond.classLink own index ("[" ++ (FieldType.array .int).toString)).before args s = true)
    (hover : (Cond.arrayOver (.array .int)).before args s = true) (harr : (Cond.arrayClass .int).before args s = true) (hK : va_K D cl tys s) (hP : va_P D cl ws H) (hD : va_D A ws) (hS : va_S A s.heap H locs) (hA : ∀ q, s.heap.size ≤ q → A q)
    {n k : Int32} {N M : Nat} (hn : ¬ n < 0) (hk : ¬ k < 0) (hN : n.toNatClampNeg = N) (hM : k.toNatClampNeg = M) (hb1 : N * 4 ≤ 536870912) (hb2 : M * 4 ≤ 536870912) (hcells : cells + (1 + N) ≤ R.cells) (hslots : slots + (N + N * M) ≤ R.slots) (hdg : decode cc pc = .ok (.multianewarray index 2, 4))
    (kk : ∀ (q : Nat) (cA cR : ClassId) (H1 : Heap), va_K D cl (tys ++ [(cA, .array .int), (cR, .int)]) s → va_P D cl ((ws ++ [(q, .inl (cA, N, .inr (.inr (.inr (.inr (fun j => some (q + 1 + j)))))))]) ++ va_pl (mz_rows q N) (fun _ => .inl (cR, M, .inl (fun _ => 0)))) H1 →
      va_D A ((ws ++ [(q, .inl (cA, N, .inr (.inr (.inr (.inr (fun j => some (q + 1 + j)))))))]) ++ va_pl (mz_rows q N) (fun _ => .inl (cR, M, .inl (fun _ => 0)))) → va_S A s.heap H1 locs →
      W p l e R s m args below meth c H1 locs (cells + (1 + N)) (slots + (N + N * M)) Q (F0 m (pc + 4) ls (.ref q :: rest))) : W p l e R s m args below meth c H locs cells slots Q (F0 m pc ls (.int k :: .int n :: rest)) := by
  refine mz_W hexec hb hown hclink hover harr hdg hN hM hn hk hb1 hb2 (by omega) rfl hcells hslots hS.1 (fun cA comp H1 k1 k2 k3 k4 hz h0 hr ho => ?_)
  have hkeep : va_P D cl ws H1 := hP.kept (fun k x hx => ho x.1 ((hP k x hx).lt))
  have hlt : ∀ (k : Nat) (x : Nat × va_E), ws[k]? = some x → x.1 < H.size := fun k x hx => (hP k x hx).lt
  have hrow : ∀ (i : Nat) (x : Nat × va_E), (va_pl (mz_rows H.size N) (fun _ => .inl (comp, M, .inl (fun _ => 0))))[i]? = some x → i < N ∧ x = (H.size + 1 + i, .inl (comp, M, .inl (fun _ => 0))) := by
    intro i x hx
    have hi : i < N := by
      have := (List.getElem?_eq_some_iff.mp hx).1
      simpa [va_pl, mz_rows] using this
    refine ⟨hi, ?_⟩
    simp [va_pl, mz_rows, hi] at hx
    exact hx.symm
  have hD1 : va_D A (ws ++ [(H.size, .inl (cA, N, .inr (.inr (.inr (.inr (fun j => some (H.size + 1 + j)))))))]) := hD.push hP rfl (hA _ hS.1)
  have hP1 : va_P D cl (ws ++ [(H.size, .inl (cA, N, .inr (.inr (.inr (.inr (fun j => some (H.size + 1 + j)))))))]) H1 := by
    refine hkeep.app (fun k x hx => ?_)
    have hk0 : k < 1 := (List.getElem?_eq_some_iff.mp hx).1
    rw [show k = 0 by omega] at hx
    cases hx
    show H1[H.size]? = some (vp_cell _ _)
    rw [vp_cell_q]
    exact h0
  refine kk H.size cA comp H1 ⟨hK.1, fun k x hx => ?_⟩ (hP1.app (fun k x hx => ?_)) (hD1.app ⟨fun i j x y hx hy exy => ?_, fun k x hx => ?_⟩ (fun i j x y hx hy => ?_)) ⟨by have := hS.1; omega, fun x h1 h2 => (ho x (Nat.lt_of_lt_of_le h1 hS.1)).trans (hS.2.1 x h1 h2), hS.2.2⟩
  · by_cases hl : k < tys.length
    · rw [List.getElem?_append_left hl] at hx
      exact hK.2 k x hx
    · rw [List.getElem?_append_right (by omega)] at hx
      have hz2 : k - tys.length < 2 := (List.getElem?_eq_some_iff.mp hx).1
      rcases (show k - tys.length = 0 ∨ k - tys.length = 1 by omega) with h | h
      · rw [h] at hx
        cases hx
        exact ⟨k1, k2⟩
      · rw [h] at hx
        cases hx
        exact ⟨k3, k4⟩
  · obtain ⟨hi, rfl⟩ := hrow k x hx
    show H1[H.size + 1 + k]? = some (vp_cell _ _)
    rw [vp_cell_i]
    exact hr k hi
  · obtain ⟨hi, rfl⟩ := hrow i x hx
    obtain ⟨hj, rfl⟩ := hrow j y hy
    have : H.size + 1 + i = H.size + 1 + j := exy
    omega
  · obtain ⟨hi, rfl⟩ := hrow k x hx
    have := hS.1
    exact hA _ (by show s.heap.size ≤ H.size + 1 + k; omega)
  · obtain ⟨hj, rfl⟩ := hrow j y hy
    intro exy
    have exy : x.1 = H.size + 1 + j := exy
    by_cases hl : i < ws.length
    · rw [List.getElem?_append_left hl] at hx
      have := hlt i x hx
      omega
    · rw [List.getElem?_append_right (by omega)] at hx
      have hk0 : i - ws.length < 1 := (List.getElem?_eq_some_iff.mp hx).1
      rw [show i - ws.length = 0 by omega] at hx
      cases hx
      have exy : H.size = H.size + 1 + j := exy
      omega
end MZV
end
section
/-! the place's own rows over the kit's: one list of words for all methods, one world, one form of contract -/
/-- the array classes that the worlds use -/
abbrev tyl (k : Nat → ClassId) : List (ClassId × FieldType) := [(k 0, .int), (k 1, .long), (k 2, .boolean), (k 3, .object "PotentialBench$Body"), (k 4, .object "PotentialBench$Whole"), (k 5, .array .int)]
def nxOk : Cond → Bool
  | .fieldLinkNest .. => true
  | .methodLinkNest .. => true
  | _ => false
theorem nx_warm {w : Cond} (h : nxOk w = true) {s U : State} (hW : s.WarmedH U.vm) (hZ : va_Nw w s) : va_Nw w U := by
  cases w <;> simp [nxOk] at h
  · exact va_Nw.warmM hW hZ
  · exact va_Nw.warmF hW hZ
theorem nx_tab {w : Cond} (h : nxOk w = true) : w.onTables = true := by
  cases w <;> simp [nxOk] at h <;> rfl
/-- an array class over arrays of ints is known -/
def ao_I (U : State) : Prop := (Cond.arrayOver (.array .int)).before #[] U = true
theorem ao_I_moved {u U : State} (hvm : u.vm.Alike U.vm) (h : ao_I u) : ao_I U := by
  obtain ⟨comp, c, k, h1, h2, h3, h4, h5⟩ := arrayOverA_spec h
  obtain ⟨k', hk', he⟩ := hvm.2.2 _ _ h3
  have hi : (U.vm.classes.findIdx? fun (x : Class) => match x.kind with | .array component _ => component == comp | _ => false) = some c := by
    rw [hvm.findIdx?_eq _ (fun _ => rfl)]
    exact h2
  have hkind : k'.kind = .array comp (.array .int) := by rw [he]; exact h4
  have f1 : U.vm.findClass (FieldType.array .int).toString = some comp := by rw [hvm.findClass]; exact h1
  have f2 : U.vm.findClass ("[" ++ (FieldType.array .int).toString) = some c := by rw [hvm.findClass]; exact h5
  unfold ao_I Cond.before Cond.holds
  simp only [Cond.value]
  rw [f1, Option.bind_some]
  refine (congrArg (fun o : Option Nat => (o.bind (fun c => (U.vm.classes[c]?).map fun (k : Class) => match k.kind with | .array _ ty => decide (ty = FieldType.array .int) && decide (U.vm.findClass ("[" ++ (FieldType.array .int).toString) = some c) | _ => false) == some true)) hi).trans ?_
  simp [hk', hkind, f2]
/-- what every method knows of the tables besides its words -/
def Kn (G : va_G) (k : Nat → ClassId) (U : State) : Prop := va_K G cls (tyl k) U ∧ (∀ w ∈ tables_1, nxOk w = true → va_Nw w U) ∧ va_AO "PotentialBench$Body" U ∧ va_AO "PotentialBench$Whole" U ∧ ao_I U
theorem Kn.warm {G : va_G} {k : Nat → ClassId} {s U : State} (hW : s.WarmedH U.vm) (h : Kn G k s) : Kn G k U := ⟨va_K.moved hW.alike h.1, fun w hw ho => nx_warm ho hW (h.2.1 w hw ho), va_AO.moved hW.alike h.2.2.1, va_AO.moved hW.alike h.2.2.2.1, ao_I_moved hW.alike h.2.2.2.2⟩
theorem Kn.same {G : va_G} {k : Nat → ClassId} {s U : State} (hv : s.vm = U.vm) (h : Kn G k s) : Kn G k U := by
  have ha : s.vm.Alike U.vm := by rw [← hv]; exact Vm.Alike.refl s.vm
  exact ⟨va_K.moved ha h.1, fun w hw ho => va_Nw.same (nx_tab ho) hv (h.2.1 w hw ho), va_AO.moved ha h.2.2.1, va_AO.moved ha h.2.2.2.1, ao_I_moved ha h.2.2.2.2⟩
/-- a method's start: the heap has sz cells, holds the world wi -/
def Pr (G : va_G) (k : Nat → ClassId) (sz : Nat) (wi : va_W) (U : State) : Prop := U.heap.size = sz ∧ va_P G cls wi U.heap ∧ Kn G k U ∧ va_D (fun _ => True) wi
/-- a method's end: the world wo of its answer -/
def Po {S : Type} (G : va_G) (k : Nat → ClassId) (A : Nat → Prop) (wo : S → va_W) (u : S) (t : State) : Prop := va_P G cls (wo u) t.heap ∧ Kn G k t ∧ va_D A (wo u)
abbrev wy (y : MethodName) (cc : ByteArray) (n : Nat) (r : Option FieldType) : List Cond := Cond.code y cc n r :: gt
/-- contracts: void, int (boolean too), long -/
abbrev CV {S : Type} (l : Launch) (y : MethodName) (cc : ByteArray) (n : Nat) (rm : Room) (as : List Value) (G : va_G) (k : Nat → ClassId) (sz : Nat) (wi : va_W) (post : S → Prop) (wo : S → va_W) (mc ms : Nat) : Prop :=
  Met l y (wy y cc n none) rm (va_Pc as (Pr G k sz wi)) (va_Qv post (Po G k (va_A wi sz) wo) (va_A wi sz)) mc ms (va_A wi sz)
abbrev CI {S : Type} (l : Launch) (y : MethodName) (cc : ByteArray) (n : Nat) (rt : FieldType) (rm : Room) (as : List Value) (G : va_G) (k : Nat → ClassId) (sz : Nat) (wi : va_W) (post : Int32 → S → Prop) (wo : S → va_W) (mc ms : Nat) : Prop :=
  Met l y (wy y cc n (some rt)) rm (va_Pc as (Pr G k sz wi)) (va_Qi post (Po G k (va_A wi sz) wo) (va_A wi sz)) mc ms (va_A wi sz)
abbrev CL {S : Type} (l : Launch) (y : MethodName) (cc : ByteArray) (n : Nat) (rm : Room) (as : List Value) (G : va_G) (k : Nat → ClassId) (sz : Nat) (wi : va_W) (post : Int64 → S → Prop) (wo : S → va_W) (mc ms : Nat) : Prop :=
  Met l y (wy y cc n (some .long)) rm (va_Pc as (Pr G k sz wi)) (va_Ql post (Po G k (va_A wi sz) wo) (va_A wi sz)) mc ms (va_A wi sz)
/-- the heap now: it holds ws, of A alone, and nothing outside A has changed since H0 -/
def Sw (G : va_G) (A : Nat → Prop) (H0 H : Heap) (locs : List Loc) (ws : va_W) : Prop := va_P G cls ws H ∧ va_D A ws ∧ va_S A H0 H locs
theorem Sw.sub {G : va_G} {A : Nat → Prop} {H0 H : Heap} {locs : List Loc} {ws ws' : va_W} (h : Sw G A H0 H locs ws) (is : List Nat) (hn : va_nd is = true) (hs : is.map (fun i => ws[i]?) = ws'.map some) : Sw G A H0 H locs ws' := by
  refine ⟨h.1.sub is ?_, h.2.1.sub is hn hs, h.2.2⟩
  have h1 : (is.map (fun i => ws[i]?)).filterMap id = (ws'.map some).filterMap id := by rw [hs]
  simpa [List.filterMap_map, Function.comp_def] using h1
/-- what is known inside a method's body -/
def Cx (p : Program) (s : State) (m : MethodId) (args : Array Value) (meth : Method) (c : Code) (cc : ByteArray) (own : String) (nL : Nat) (ret : Option FieldType) (nm : String) : Prop :=
  p.tables.exec = Jvm.exec ∧ c.code = cc ∧ c.maxLocals = nL ∧ s.vm.findClass own = some m.cls ∧ (∀ w ∈ gt, w.before args s = true) ∧ meth.sig.returnType = ret ∧ meth.locks = false ∧ meth.name = nm
section START
variable {l : Launch} {y : MethodName} {cc : ByteArray} {n : Nat} {rm : Room} {as : List Value} {G : va_G} {k : Nat → ClassId} {sz : Nat} {wi : va_W} {mc ms : Nat}
theorem met_start {ret : Option FieldType} {Q : Array Value → State → Outcome → State → Prop} {free : Addr → Prop} (hy : plainName y.cls = true) (ha : (lg_sl as).length ≤ n)
    (body : ∀ p e s m below meth c, Cx p s m as.toArray meth c cc y.cls n ret y.name → Kn G k s → (∀ q : Nat, s.heap.size ≤ q → va_A wi sz q) → s.heap.size = sz → Sw G (va_A wi sz) s.heap s.heap [] wi → ∀ ls, lv_has ls n (lv_args 0 as) →
      W p l e rm s m as.toArray below meth c s.heap [] 0 0 (MQ below Q as.toArray s mc ms free) (F0 m 0 ls [])) : Met l y (wy y cc n ret) rm (va_Pc as (Pr G k sz wi)) Q mc ms free := by
  refine Met.ofW (cc := cc) (maxL := n) (ret := ret) hy rfl ?_
  intro p e s m args below meth c s₁ B hml hv
  obtain ⟨rfl, hsz, hP, hK, hD0⟩ := hv
  have hts := atoms_spec (ws := wy y cc n ret) B.pre
  have hnm := name_of_methodNamed B.named B.method
  have hD := hD0.self (sz := sz)
  rw [lg_entry_eq]
  exact body p e s m below meth c ⟨B.exec, B.bytes, hml, findClass_of_methodNamed B.named, fun w h => hts w (List.mem_cons_of_mem _ h), B.returns, B.notSynchronized, hnm.1⟩ hK (fun q h => Or.inr (by rw [← hsz]; exact h)) hsz ⟨hP, hD, va_S.rf⟩ _ (lv_entry as ha)
end START
section ROWS
variable {p : Program} {l : Launch} {e : Env} {R : Room} {s : State} {m : MethodId} {args : Array Value} {below : List Frame} {meth : Method} {c : Code} {H : Heap} {locs : List Loc} {cells slots : Nat} {Q : State → Prop}
variable {cc : ByteArray} {own nm : String} {nL : Nat} {ret : Option FieldType} {G : va_G} {k : Nat → ClassId} {A : Nat → Prop} {ws : va_W} {pc : Nat} {ls : Array Slot} {rest : List Value} {a : Nat}
/-- a class's own rows, by its place in cls -/
def clOk (q : vw_C) : Prop := (∀ w ∈ u_ws q.1 q.2.1 q.2.2, w ∈ gt) ∧ ∃ ty : Nat → FieldType, (∀ j, j < q.2.2 → parseFieldDescriptor (q.2.1 j).2.2.1 = some (ty j)) ∧ ∀ a, a < q.2.2 → ∀ b, b < q.2.2 → a ≠ b → (q.2.1 a).2.1 ≠ (q.2.1 b).2.1
theorem r_get (C : Cx p s m args meth c cc own nL ret nm) (K : Kn G k s) (S : Sw G A s.heap H locs ws) (q0 : Nat) {ci : Nat} {fs : List Value} (he : ws[q0]? = some (a, .inr (ci, fs))) {q : vw_C} (hc : cls[ci]? = some q) (hq : clOk q) (f : Nat) (hf : f < q.2.2) {index : Nat} (hlink : Cond.fieldLink own index (q.2.1 f).1 (q.2.1 f).2.1 (q.2.1 f).2.2.1 ∈ gt) {v : Value} (hv : fs[f]? = some v) (hdg : decode cc pc = .ok (.getfield index, 3))
    (kk : W p l e R s m args below meth c H locs cells slots Q (F0 m (pc + 3) ls (v :: rest))) : W p l e R s m args below meth c H locs cells slots Q (F0 m pc ls (.ref a :: rest)) :=
  va_get (C := q.1) (T := q.2.1) (N := q.2.2) C.1 C.2.1 C.2.2.2.2.1 hq.1 C.2.2.2.1 K.1 S.1 q0 he hc f hf (C.2.2.2.2.1 _ hlink) (fun _ h => h) hv hdg kk
theorem r_getN (C : Cx p s m args meth c cc own nL ret nm) (K : Kn G k s) (S : Sw G A s.heap H locs ws) (q0 : Nat) {ci : Nat} {fs : List Value} (he : ws[q0]? = some (a, .inr (ci, fs))) {q : vw_C} (hc : cls[ci]? = some q) (hq : clOk q) (f : Nat) (hf : f < q.2.2) {index : Nat} {host : String} (hlink : Cond.fieldLinkNest own index (q.2.1 f).1 (q.2.1 f).2.1 (q.2.1 f).2.2.1 host ∈ tables_1) {v : Value} (hv : fs[f]? = some v) (hdg : decode cc pc = .ok (.getfield index, 3))
    (kk : W p l e R s m args below meth c H locs cells slots Q (F0 m (pc + 3) ls (v :: rest))) : W p l e R s m args below meth c H locs cells slots Q (F0 m pc ls (.ref a :: rest)) :=
  va_getN (C := q.1) (T := q.2.1) (N := q.2.2) C.1 C.2.1 C.2.2.2.2.1 hq.1 C.2.2.2.1 K.1 S.1 q0 he hc f hf (va_Nw.use rfl (K.2.1 _ hlink rfl)) (fun _ h => h) hv hdg kk
theorem r_put (C : Cx p s m args meth c cc own nL ret nm) (K : Kn G k s) (S : Sw G A s.heap H locs ws) (q0 : Nat) {ci : Nat} {fs : List Value} (he : ws[q0]? = some (a, .inr (ci, fs))) {q : vw_C} (hc : cls[ci]? = some q) (hq : clOk q) (f : Nat) (hf : f < q.2.2) {index : Nat} (hlink : Cond.fieldLink own index (q.2.1 f).1 (q.2.1 f).2.1 (q.2.1 f).2.2.1 ∈ gt) (hfin : (q.2.1 f).2.2.2 = false) {ty : FieldType} {v : Value} (hd : parseFieldDescriptor (q.2.1 f).2.2.1 = some ty) (hn : narrow ty v = v) (hfit : fits ty v = true) (hl : f < fs.length) {fs' : List Value} {ws' : va_W} (h1 : fs.set f v = fs') (h2 : ws.set q0 (a, .inr (ci, fs')) = ws') (hdg : decode cc pc = .ok (.putfield index, 3))
    (kk : ∀ (H1 : Heap) (locs1 : List Loc), Sw G A s.heap H1 locs1 ws' → W p l e R s m args below meth c H1 locs1 cells slots Q (F0 m (pc + 3) ls rest)) : W p l e R s m args below meth c H locs cells slots Q (F0 m pc ls (v :: .ref a :: rest)) := by
  subst h1; subst h2
  obtain ⟨t0, ht0, hn0⟩ := hq.2
  exact va_put (C := q.1) (T := q.2.1) (N := q.2.2) C.1 C.2.1 C.2.2.2.2.1 hq.1 t0 ht0 hn0 C.2.2.2.1 K.1 S.1 S.2.1 S.2.2 q0 he hc f hf (C.2.2.2.2.1 _ hlink) (fun _ h => h) hfin hd hn hfit hl hdg (fun H1 l1 a1 a2 a3 => kk H1 l1 ⟨a1, a2, a3⟩)
theorem r_putN (C : Cx p s m args meth c cc own nL ret nm) (K : Kn G k s) (S : Sw G A s.heap H locs ws) (q0 : Nat) {ci : Nat} {fs : List Value} (he : ws[q0]? = some (a, .inr (ci, fs))) {q : vw_C} (hc : cls[ci]? = some q) (hq : clOk q) (f : Nat) (hf : f < q.2.2) {index : Nat} {host : String} (hlink : Cond.fieldLinkNest own index (q.2.1 f).1 (q.2.1 f).2.1 (q.2.1 f).2.2.1 host ∈ tables_1) (hfin : (q.2.1 f).2.2.2 = false) {ty : FieldType} {v : Value} (hd : parseFieldDescriptor (q.2.1 f).2.2.1 = some ty) (hn : narrow ty v = v) (hfit : fits ty v = true) (hl : f < fs.length) {fs' : List Value} {ws' : va_W} (h1 : fs.set f v = fs') (h2 : ws.set q0 (a, .inr (ci, fs')) = ws') (hdg : decode cc pc = .ok (.putfield index, 3))
    (kk : ∀ (H1 : Heap) (locs1 : List Loc), Sw G A s.heap H1 locs1 ws' → W p l e R s m args below meth c H1 locs1 cells slots Q (F0 m (pc + 3) ls rest)) : W p l e R s m args below meth c H locs cells slots Q (F0 m pc ls (v :: .ref a :: rest)) := by
  subst h1; subst h2
  obtain ⟨t0, ht0, hn0⟩ := hq.2
  exact va_putN (C := q.1) (T := q.2.1) (N := q.2.2) C.1 C.2.1 C.2.2.2.2.1 hq.1 t0 ht0 hn0 C.2.2.2.1 K.1 S.1 S.2.1 S.2.2 q0 he hc f hf (va_Nw.use rfl (K.2.1 _ hlink rfl)) (fun _ h => h) hfin hd hn hfit hl hdg (fun H1 l1 a1 a2 a3 => kk H1 l1 ⟨a1, a2, a3⟩)
theorem r_putF (C : Cx p s m args meth c cc own nL ret "<init>") (K : Kn G k s) (S : Sw G A s.heap H locs ws) (q0 : Nat) {ci : Nat} {fs : List Value} (he : ws[q0]? = some (a, .inr (ci, fs))) {q : vw_C} (hc : cls[ci]? = some q) (hq : clOk q) (f : Nat) (hf : f < q.2.2) {index : Nat} (hlink : Cond.fieldLink own index (q.2.1 f).1 (q.2.1 f).2.1 (q.2.1 f).2.2.1 ∈ gt) (hfin : (q.2.1 f).2.2.2 = true) (hdecl : (q.2.1 f).1 = own) {ty : FieldType} {v : Value} (hd : parseFieldDescriptor (q.2.1 f).2.2.1 = some ty) (hn : narrow ty v = v) (hfit : fits ty v = true) (hl : f < fs.length) {fs' : List Value} {ws' : va_W} (h1 : fs.set f v = fs') (h2 : ws.set q0 (a, .inr (ci, fs')) = ws') (hdg : decode cc pc = .ok (.putfield index, 3))
    (kk : ∀ (H1 : Heap) (locs1 : List Loc), Sw G A s.heap H1 locs1 ws' → W p l e R s m args below meth c H1 locs1 cells slots Q (F0 m (pc + 3) ls rest)) : W p l e R s m args below meth c H locs cells slots Q (F0 m pc ls (v :: .ref a :: rest)) := by
  subst h1; subst h2
  obtain ⟨t0, ht0, hn0⟩ := hq.2
  exact va_putF (C := q.1) (T := q.2.1) (N := q.2.2) C.1 C.2.1 C.2.2.2.2.1 hq.1 t0 ht0 hn0 C.2.2.2.1 K.1 S.1 S.2.1 S.2.2 q0 he hc f hf (C.2.2.2.2.1 _ hlink) (fun _ h => h) hfin C.2.2.2.2.2.2.2 hdecl hd hn hfit hl hdg (fun H1 l1 a1 a2 a3 => kk H1 l1 ⟨a1, a2, a3⟩)
theorem r_objInit (C : Cx p s m args meth c cc own nL ret nm) {idx : Nat} (hl : Cond.methodLink own idx Lib.objectInit ∈ gt) (hs : ls.size = nL) (hd : decode cc pc = .ok (.invokespecial idx, 3)) (hf : 1 ≤ R.frames) (hlo : (rest.map fun v => v.category).sum + 12 ≤ R.locals)
    (kk : W p l e R s m args below meth c H locs cells slots Q (F0 m (pc + 3) ls rest)) : W p l e R s m args below meth c H locs cells slots Q (F0 m pc ls (.ref a :: rest)) :=
  W.objInit C.1 C.2.1 C.2.2.2.1 (C.2.2.2.2.1 _ hl) (C.2.2.2.2.1 _ wn_JO_init) (C.2.2.2.2.1 _ wc_JO_init) rfl (by rw [C.2.2.1]; exact hs) rfl hd hf (by show 2 * 0 + _ + 12 ≤ _; omega) kk
end ROWS
end
section
/-! the place's own rows, second part: what is made, arrays, calls, ends -/
theorem clOk_PB : clOk (R_PB, T_PB, 9) := ⟨in_PB, t_PB, k_PB, n_PB⟩
theorem clOk_So : clOk (R_So, T_So, 14) := ⟨in_So, t_So, k_So, n_So⟩
theorem clOk_Wh : clOk (R_Wh, T_Wh, 3) := ⟨in_Wh, t_Wh, k_Wh, n_Wh⟩
theorem clOk_Be : clOk (R_Be, T_Be, 8) := ⟨in_Be, t_Be, k_Be, n_Be⟩
theorem clOk_Bo : clOk (R_Bo, T_Bo, 9) := ⟨in_Bo, t_Bo, k_Bo, n_Bo⟩
theorem clOk_Re : clOk (R_Re, T_Re, 5) := ⟨in_Re, t_Re, k_Re, n_Re⟩
theorem clOk_Ru : clOk (R_Ru, T_Ru, 12) := ⟨in_Ru, t_Ru, k_Ru, n_Ru⟩
theorem clOk_Ne : clOk (R_Ne, T_Ne, 12) := ⟨in_Ne, t_Ne, k_Ne, n_Ne⟩
theorem clOk_Mo : clOk (R_Mo, T_Mo, 61) := ⟨in_Mo, t_Mo, k_Mo, n_Mo⟩
/-- an array class is told by its name -/
theorem ra_same {U : State} {cA cB : ClassId} {ty : FieldType} (h1 : va_RA U cA ty) (h2 : va_RA U cB ty) : cA = cB := by
  cases ty with
  | object C =>
    obtain ⟨_, _, _, _, _, h1⟩ := h1
    obtain ⟨_, _, _, _, _, h2⟩ := h2
    exact Option.some.inj (h1.symm.trans h2)
  | _ => exact Option.some.inj (Eq.trans (Eq.symm h1) h2)
section ROWS2
variable {p : Program} {l : Launch} {e : Env} {R : Room} {s : State} {m : MethodId} {args : Array Value} {below : List Frame} {meth : Method} {c : Code} {H : Heap} {locs : List Loc} {cells slots : Nat} {Q : State → Prop}
variable {cc : ByteArray} {own nm : String} {nL : Nat} {ret : Option FieldType} {G : va_G} {k : Nat → ClassId} {A : Nat → Prop} {ws : va_W} {pc : Nat} {ls : Array Slot} {rest : List Value} {a : Nat}
theorem r_newI (C : Cx p s m args meth c cc own nL ret nm) (K : Kn G k s) (S : Sw G A s.heap H locs ws) (hA : ∀ q, s.heap.size ≤ q → A q) {n : Int32} (N' : Nat) (hn : ¬ n < 0) (hN : n.toNatClampNeg = N') (hbytes : N' * 4 ≤ 536870912) (hcells : cells + 1 ≤ R.cells) (hslots : slots + N' ≤ R.slots) (hdg : decode cc pc = .ok (.newarray .int, 2))
    (kk : ∀ (q : Nat) (H1 : Heap), Sw G A s.heap H1 locs (ws ++ [(q, .inl (k 0, N', .inl (fun _ => 0)))]) → W p l e R s m args below meth c H1 locs (cells + 1) (slots + N') Q (F0 m (pc + 2) ls (.ref q :: rest))) : W p l e R s m args below meth c H locs cells slots Q (F0 m pc ls (.int n :: rest)) := by
  refine va_newa (atype := .int) (ty := .int) (a0 := (N', .inl (fun _ => 0))) C.1 C.2.1 (C.2.2.2.2.1 _ wa_int) rfl K.1 S.1 S.2.1 S.2.2 hA (fun cA => rfl) hn hN hbytes hcells hslots hdg (fun q cA H1 hK hP hD hS => ?_)
  have e1 : cA = k 0 := ra_same (hK.2 6 (cA, .int) rfl).2 (K.1.2 0 (k 0, .int) rfl).2
  subst e1
  exact kk q H1 ⟨hP, hD, hS⟩
theorem r_newJ (C : Cx p s m args meth c cc own nL ret nm) (K : Kn G k s) (S : Sw G A s.heap H locs ws) (hA : ∀ q, s.heap.size ≤ q → A q) {n : Int32} (N' : Nat) (hn : ¬ n < 0) (hN : n.toNatClampNeg = N') (hbytes : N' * 8 ≤ 536870912) (hcells : cells + 1 ≤ R.cells) (hslots : slots + N' ≤ R.slots) (hdg : decode cc pc = .ok (.newarray .long, 2))
    (kk : ∀ (q : Nat) (H1 : Heap), Sw G A s.heap H1 locs (ws ++ [(q, .inl (k 1, N', .inr (.inl (fun _ => 0))))]) → W p l e R s m args below meth c H1 locs (cells + 1) (slots + N') Q (F0 m (pc + 2) ls (.ref q :: rest))) : W p l e R s m args below meth c H locs cells slots Q (F0 m pc ls (.int n :: rest)) := by
  refine va_newa (atype := .long) (ty := .long) (a0 := (N', .inr (.inl (fun _ => 0)))) C.1 C.2.1 (C.2.2.2.2.1 _ wa_long) rfl K.1 S.1 S.2.1 S.2.2 hA (fun cA => rfl) hn hN hbytes hcells hslots hdg (fun q cA H1 hK hP hD hS => ?_)
  have e1 : cA = k 1 := ra_same (hK.2 6 (cA, .long) rfl).2 (K.1.2 1 (k 1, .long) rfl).2
  subst e1
  exact kk q H1 ⟨hP, hD, hS⟩
theorem r_newZ (C : Cx p s m args meth c cc own nL ret nm) (K : Kn G k s) (S : Sw G A s.heap H locs ws) (hA : ∀ q, s.heap.size ≤ q → A q) {n : Int32} (N' : Nat) (hn : ¬ n < 0) (hN : n.toNatClampNeg = N') (hbytes : N' * 1 ≤ 536870912) (hcells : cells + 1 ≤ R.cells) (hslots : slots + N' ≤ R.slots) (hdg : decode cc pc = .ok (.newarray .boolean, 2))
    (kk : ∀ (q : Nat) (H1 : Heap), Sw G A s.heap H1 locs (ws ++ [(q, .inl (k 2, N', .inl (fun _ => 0)))]) → W p l e R s m args below meth c H1 locs (cells + 1) (slots + N') Q (F0 m (pc + 2) ls (.ref q :: rest))) : W p l e R s m args below meth c H locs cells slots Q (F0 m pc ls (.int n :: rest)) := by
  refine va_newa (atype := .boolean) (ty := .boolean) (a0 := (N', .inl (fun _ => 0))) C.1 C.2.1 (C.2.2.2.2.1 _ wa_boolean) rfl K.1 S.1 S.2.1 S.2.2 hA (fun cA => rfl) hn hN hbytes hcells hslots hdg (fun q cA H1 hK hP hD hS => ?_)
  have e1 : cA = k 2 := ra_same (hK.2 6 (cA, .boolean) rfl).2 (K.1.2 2 (k 2, .boolean) rfl).2
  subst e1
  exact kk q H1 ⟨hP, hD, hS⟩
theorem r_newB (C : Cx p s m args meth c cc own nL ret nm) (K : Kn G k s) (S : Sw G A s.heap H locs ws) (hA : ∀ q, s.heap.size ≤ q → A q) {index : Nat} (hl : Cond.classLink own index "PotentialBench$Body" ∈ gt) {n : Int32} (N' : Nat) (hn : ¬ n < 0) (hN : n.toNatClampNeg = N') (hbytes : N' * 4 ≤ 536870912) (hcells : cells + 1 ≤ R.cells) (hslots : slots + N' ≤ R.slots) (hdg : decode cc pc = .ok (.anewarray index, 3))
    (kk : ∀ (q : Nat) (H1 : Heap), Sw G A s.heap H1 locs (ws ++ [(q, .inl (k 3, N', .inr (.inr (.inr (.inr (fun _ => none))))))]) → W p l e R s m args below meth c H1 locs (cells + 1) (slots + N') Q (F0 m (pc + 3) ls (.ref q :: rest))) : W p l e R s m args below meth c H locs cells slots Q (F0 m pc ls (.int n :: rest)) := by
  refine va_newq (C := "PotentialBench$Body") C.1 C.2.1 C.2.2.2.1 (C.2.2.2.2.1 _ hl) K.2.2.1 K.1 S.1 S.2.1 S.2.2 hA hn hN hbytes hcells hslots hdg (fun q cA H1 hK hP hD hS => ?_)
  have e1 : cA = k 3 := ra_same (hK.2 6 (cA, .object "PotentialBench$Body") rfl).2 (K.1.2 3 (k 3, .object "PotentialBench$Body") rfl).2
  subst e1
  exact kk q H1 ⟨hP, hD, hS⟩
theorem r_newW (C : Cx p s m args meth c cc own nL ret nm) (K : Kn G k s) (S : Sw G A s.heap H locs ws) (hA : ∀ q, s.heap.size ≤ q → A q) {index : Nat} (hl : Cond.classLink own index "PotentialBench$Whole" ∈ gt) {n : Int32} (N' : Nat) (hn : ¬ n < 0) (hN : n.toNatClampNeg = N') (hbytes : N' * 4 ≤ 536870912) (hcells : cells + 1 ≤ R.cells) (hslots : slots + N' ≤ R.slots) (hdg : decode cc pc = .ok (.anewarray index, 3))
    (kk : ∀ (q : Nat) (H1 : Heap), Sw G A s.heap H1 locs (ws ++ [(q, .inl (k 4, N', .inr (.inr (.inr (.inr (fun _ => none))))))]) → W p l e R s m args below meth c H1 locs (cells + 1) (slots + N') Q (F0 m (pc + 3) ls (.ref q :: rest))) : W p l e R s m args below meth c H locs cells slots Q (F0 m pc ls (.int n :: rest)) := by
  refine va_newq (C := "PotentialBench$Whole") C.1 C.2.1 C.2.2.2.1 (C.2.2.2.2.1 _ hl) K.2.2.2.1 K.1 S.1 S.2.1 S.2.2 hA hn hN hbytes hcells hslots hdg (fun q cA H1 hK hP hD hS => ?_)
  have e1 : cA = k 4 := ra_same (hK.2 6 (cA, .object "PotentialBench$Whole") rfl).2 (K.1.2 4 (k 4, .object "PotentialBench$Whole") rfl).2
  subst e1
  exact kk q H1 ⟨hP, hD, hS⟩
theorem r_multi (C : Cx p s m args meth c cc own nL ret nm) (K : Kn G k s) (S : Sw G A s.heap H locs ws) (hA : ∀ q, s.heap.size ≤ q → A q) {index : Nat} (hl : Cond.classLink own index "[[I" ∈ gt) {n j : Int32} (N M : Nat) (hn : ¬ n < 0) (hj : ¬ j < 0) (hN : n.toNatClampNeg = N) (hM : j.toNatClampNeg = M) (hb1 : N * 4 ≤ 536870912) (hb2 : M * 4 ≤ 536870912) (hcells : cells + (1 + N) ≤ R.cells) (hslots : slots + (N + N * M) ≤ R.slots) (hdg : decode cc pc = .ok (.multianewarray index 2, 4))
    (kk : ∀ (q : Nat) (H1 : Heap), Sw G A s.heap H1 locs ((ws ++ [(q, .inl (k 5, N, .inr (.inr (.inr (.inr (fun j => some (q + 1 + j)))))))]) ++ va_pl (mz_rows q N) (fun _ => .inl (k 0, M, .inl (fun _ => 0)))) → W p l e R s m args below meth c H1 locs (cells + (1 + N)) (slots + (N + N * M)) Q (F0 m (pc + 4) ls (.ref q :: rest))) : W p l e R s m args below meth c H locs cells slots Q (F0 m pc ls (.int j :: .int n :: rest)) := by
  refine mz_int C.1 C.2.1 C.2.2.2.1 (C.2.2.2.2.1 _ hl) K.2.2.2.2 (C.2.2.2.2.1 _ wa_int) K.1 S.1 S.2.1 S.2.2 hA hn hj hN hM hb1 hb2 hcells hslots hdg (fun q cA cR H1 hK hP hD hS => ?_)
  have e1 : cA = k 5 := ra_same (hK.2 6 (cA, .array .int) rfl).2 (K.1.2 5 (k 5, .array .int) rfl).2
  have e2 : cR = k 0 := ra_same (hK.2 7 (cR, .int) rfl).2 (K.1.2 0 (k 0, .int) rfl).2
  subst e1; subst e2
  exact kk q H1 ⟨hP, hD, hS⟩
theorem r_new (C : Cx p s m args meth c cc own nL ret nm) (K : Kn G k s) (S : Sw G A s.heap H locs ws) (hA : ∀ q, s.heap.size ≤ q → A q) (ci : Nat) {q : vw_C} (hc : cls[ci]? = some q) (hq : clOk q) {index : Nat} (hl : Cond.classLink own index q.1 ∈ gt) (hi : Cond.instantiable q.1 q.2.2 ∈ gt) (hz : Cond.initialized q.1 ∈ gt) (ty : Nat → FieldType) (hty : ∀ j, j < q.2.2 → parseFieldDescriptor (q.2.1 j).2.2.1 = some (ty j)) {fs : List Value} (hfs : ∀ j, j < q.2.2 → defaultValue (ty j) = vp_V fs j) (hcells : cells + 1 ≤ R.cells) (hslots : slots + q.2.2 ≤ R.slots) (hdg : decode cc pc = .ok (.new index, 3))
    (kk : ∀ (b : Nat) (H1 : Heap), Sw G A s.heap H1 locs (ws ++ [(b, .inr (ci, fs))]) → W p l e R s m args below meth c H1 locs (cells + 1) (slots + q.2.2) Q (F0 m (pc + 3) ls (.ref b :: rest))) : W p l e R s m args below meth c H locs cells slots Q (F0 m pc ls rest) :=
  va_new (C := q.1) (T := q.2.1) (N := q.2.2) C.1 C.2.1 C.2.2.2.2.1 hq.1 ty hty C.2.2.2.1 (C.2.2.2.2.1 _ hl) (C.2.2.2.2.1 _ hi) (C.2.2.2.2.1 _ hz) K.1 S.1 S.2.1 S.2.2 hA hc hfs hcells hslots hdg (fun b H1 hP hD hS => kk b H1 ⟨hP, hD, hS⟩)
theorem r_aald (C : Cx p s m args meth c cc own nL ret nm) (K : Kn G k s) (S : Sw G A s.heap H locs ws) (q0 t0 : Nat) {cA : ClassId} {N : String} {n : Nat} {f : Nat → Option Nat} (ha : ws[q0]? = some (a, .inl (cA, n, .inr (.inr (.inr (.inr f)))))) (ht : (tyl k)[t0]? = some (cA, .object N)) {i : Int32} (hin : vp_in i n) {b : Nat} (hv : f i.toNatClampNeg = some b) (hdg : decode cc pc = .ok (.aaload, 1))
    (kk : W p l e R s m args below meth c H locs cells slots Q (F0 m (pc + 1) ls (.ref b :: rest))) : W p l e R s m args below meth c H locs cells slots Q (F0 m pc ls (.int i :: .ref a :: rest)) :=
  va_aldq C.1 C.2.1 K.1 S.1 q0 t0 ha ht hin hdg (by rw [hv]; exact kk)
theorem r_aast (C : Cx p s m args meth c cc own nL ret nm) (K : Kn G k s) (S : Sw G A s.heap H locs ws) (q0 t0 qk ci : Nat) {cA : ClassId} {r : vw_C} {n v : Nat} {vs : List Value} {f : Nat → Option Nat} (ha : ws[q0]? = some (a, .inl (cA, n, .inr (.inr (.inr (.inr f)))))) (ht : (tyl k)[t0]? = some (cA, .object r.1)) (hv : ws[qk]? = some (v, .inr (ci, vs))) (hc : cls[ci]? = some r) {i : Int32} (hin : vp_in i n) {f' : Nat → Option Nat} {ws' : va_W} (h1 : va_up f i.toNatClampNeg (some v) = f') (h2 : ws.set q0 (a, .inl (cA, n, .inr (.inr (.inr (.inr f'))))) = ws') (hdg : decode cc pc = .ok (.aastore, 1))
    (kk : ∀ (H1 : Heap) (locs1 : List Loc), Sw G A s.heap H1 locs1 ws' → W p l e R s m args below meth c H1 locs1 cells slots Q (F0 m (pc + 1) ls rest)) : W p l e R s m args below meth c H locs cells slots Q (F0 m pc ls (.ref v :: .int i :: .ref a :: rest)) := by
  subst h1; subst h2
  exact va_astq C.1 C.2.1 K.1 S.1 S.2.1 S.2.2 q0 t0 qk ci ha ht hv hc hin hdg (fun H1 l1 a1 a2 a3 => kk H1 l1 ⟨a1, a2, a3⟩)
theorem r_iald (C : Cx p s m args meth c cc own nL ret nm) (K : Kn G k s) (S : Sw G A s.heap H locs ws) (q0 : Nat) {n : Nat} {f : Nat → Int32} (ha : ws[q0]? = some (a, .inl (k 0, n, .inl f))) {i : Int32} (hin : vp_in i n) {v : Int32} (hv : f i.toNatClampNeg = v) (hdg : decode cc pc = .ok (.iaload, 1))
    (kk : W p l e R s m args below meth c H locs cells slots Q (F0 m (pc + 1) ls (.int v :: rest))) : W p l e R s m args below meth c H locs cells slots Q (F0 m pc ls (.int i :: .ref a :: rest)) :=
  va_iald C.1 C.2.1 K.1 S.1 q0 0 ha rfl hin hdg (by rw [hv]; exact kk)
theorem r_iast (C : Cx p s m args meth c cc own nL ret nm) (K : Kn G k s) (S : Sw G A s.heap H locs ws) (q0 : Nat) {n : Nat} {f : Nat → Int32} (ha : ws[q0]? = some (a, .inl (k 0, n, .inl f))) {i x : Int32} (hin : vp_in i n) {f' : Nat → Int32} {ws' : va_W} (h1 : upd f i.toNatClampNeg x = f') (h2 : ws.set q0 (a, .inl (k 0, n, .inl f')) = ws') (hdg : decode cc pc = .ok (.iastore, 1))
    (kk : ∀ (H1 : Heap) (locs1 : List Loc), Sw G A s.heap H1 locs1 ws' → W p l e R s m args below meth c H1 locs1 cells slots Q (F0 m (pc + 1) ls rest)) : W p l e R s m args below meth c H locs cells slots Q (F0 m pc ls (.int x :: .int i :: .ref a :: rest)) := by
  subst h1; subst h2
  exact va_iast C.1 C.2.1 K.1 S.1 S.2.1 S.2.2 q0 0 ha rfl hin hdg (fun H1 l1 a1 a2 a3 => kk H1 l1 ⟨a1, a2, a3⟩)
/-- ends -/
theorem r_vret {S : Type} {post : S → Prop} {wo : S → va_W} (C : Cx p s m args meth c cc own nL none nm) (K : Kn G k s) (u : S) (hp : post u) (St : Sw G A s.heap H locs (wo u)) (hdg : decode cc pc = .ok (.return_, 1)) {mc ms : Nat} (h1 : cells ≤ mc) (h2 : slots ≤ ms) : W p l e R s m args below meth c H locs cells slots (MQ below (va_Qv post (Po G k A wo) A) args s mc ms A) (F0 m pc ls []) :=
  W.widen h1 h2 (W.vret C.1 C.2.1 C.2.2.2.2.2.1 (fun t ht hW => ⟨⟨u, rfl, hp, by rw [ht]; exact St.1, K.warm hW, St.2.1⟩, St.2.2.F ht⟩) St.2.2.2.2 hdg (hlocks := C.2.2.2.2.2.2.1))
theorem r_iret {S : Type} {post : Int32 → S → Prop} {wo : S → va_W} {rt : FieldType} (C : Cx p s m args meth c cc own nL (some rt) nm) (K : Kn G k s) {v : Int32} (hn : narrow rt (.int v) = .int v) (u : S) (hp : post v u) (St : Sw G A s.heap H locs (wo u)) (hdg : decode cc pc = .ok (.ireturn, 1)) {mc ms : Nat} (h1 : cells ≤ mc) (h2 : slots ≤ ms) : W p l e R s m args below meth c H locs cells slots (MQ below (va_Qi post (Po G k A wo) A) args s mc ms A) (F0 m pc ls [.int v]) :=
  W.widen h1 h2 (W.zret C.1 C.2.1 C.2.2.2.2.2.1 hn (fun t ht hW => ⟨⟨v, u, rfl, hp, by rw [ht]; exact St.1, K.warm hW, St.2.1⟩, St.2.2.F ht⟩) St.2.2.2.2 hdg (hlocks := C.2.2.2.2.2.2.1))
theorem r_lret {S : Type} {post : Int64 → S → Prop} {wo : S → va_W} (C : Cx p s m args meth c cc own nL (some .long) nm) (K : Kn G k s) {v : Int64} (u : S) (hp : post v u) (St : Sw G A s.heap H locs (wo u)) (hdg : decode cc pc = .ok (.lreturn, 1)) {mc ms : Nat} (h1 : cells ≤ mc) (h2 : slots ≤ ms) : W p l e R s m args below meth c H locs cells slots (MQ below (va_Ql post (Po G k A wo) A) args s mc ms A) (F0 m pc ls [.long v]) :=
  W.widen h1 h2 (W.lret C.1 C.2.1 C.2.2.2.2.2.1 (fun t ht hW => ⟨⟨v, u, rfl, hp, by rw [ht]; exact St.1, K.warm hW, St.2.1⟩, St.2.2.F ht⟩) St.2.2.2.2 hdg (hlocks := C.2.2.2.2.2.2.1))
/-- calls: the callee's cells are cut out, what comes back stands behind the rest -/
theorem pr_blind {as : List Value} {sz : Nat} {wi : va_W} : FrameBlind (va_Pc as (Pr G k sz wi)) := fun a U g mk q => ⟨q.1, q.2.1, q.2.2.1, Kn.same (s := U) (U := U.calling g mk a) rfl q.2.2.2.1, q.2.2.2.2⟩
theorem pr_now (K : Kn G k s) (S : Sw G A s.heap H locs ws) {wi : va_W} (is : List Nat) (hn : va_nd is = true) (hs : is.map (fun i => ws[i]?) = wi.map some) {as : List Value} : PreS s H (va_Pc as (Pr G k H.size wi)) as := ⟨pr_blind, fun U hU hW => ⟨rfl, by rw [hU], by rw [hU]; exact (S.sub is hn hs).1, K.warm hW, (S.sub is hn hs).2.1.weaken (fun _ _ _ _ => trivial)⟩⟩
theorem pr_nowV (K : Kn G k s) (S : Sw G A s.heap H locs ws) {wi : va_W} (is : List Nat) (hn : va_nd is = true) (hs : is.map (fun i => ws[i]?) = wi.map some) {b : Nat} {as : List Value} (q0 : Nat) {ci : Nat} {fs : List Value} (he : ws[q0]? = some (b, .inr (ci, fs))) {q : vw_C} (hc : cls[ci]? = some q) : PreV s H q.1 b (va_Pc (.ref b :: as) (Pr G k H.size wi)) as := ⟨pr_blind, va_recv K.1 S.1 hc he, (pr_now K S is hn hs).2⟩
theorem r_backv {S : Type} {post : S → Prop} {wo : S → va_W} {wi wr : va_W} (St : Sw G A s.heap H locs ws) (hA : ∀ q, s.heap.size ≤ q → A q) (isC isR : List Nat) (hC : isC.map (fun i => ws[i]?) = wi.map some) (hR : isR.map (fun i => ws[i]?) = wr.map some) (hn : va_nd isR = true) (hdis : ∀ i ∈ isR, i ∉ isC) {mc ms : Nat} {av : Array Value} {st0 : List Value} (hr : va_Run p l e R s m args below meth c H locs cells slots mc ms (F0 m pc ls st0) rest (va_Qv post (Po G k (va_A wi H.size) wo) (va_A wi H.size) av) (va_A wi H.size))
    (kk : ∀ (u : S) (H1 : Heap) (locs1 : List Loc), post u → Sw G A s.heap H1 locs1 (wr ++ wo u) → W p l e R s m args below meth c H1 locs1 (cells + mc) (slots + ms) Q (F0 m (pc + 3) ls rest)) : W p l e R s m args below meth c H locs cells slots Q (F0 m pc ls st0) := by
  have hF := va_free (wc := wi) St.2.1 St.2.2 hA isC hC
  refine va_callv hr St.2.2 (fun q _ h => hF q h) hF (fun u t H1 l1 ht hvm hp hB hz hk hS => ?_)
  obtain ⟨hP, hD⟩ := va_join (wr := wr) (w1 := wo u) St.1 St.2.1 isC isR hC hR hn hdis hk hF (by rw [← ht]; exact hB.1) hB.2.2
  exact kk u H1 l1 hp ⟨hP, hD, hS⟩
theorem r_backi {S : Type} {post : Int32 → S → Prop} {wo : S → va_W} {wi wr : va_W} (St : Sw G A s.heap H locs ws) (hA : ∀ q, s.heap.size ≤ q → A q) (isC isR : List Nat) (hC : isC.map (fun i => ws[i]?) = wi.map some) (hR : isR.map (fun i => ws[i]?) = wr.map some) (hn : va_nd isR = true) (hdis : ∀ i ∈ isR, i ∉ isC) {mc ms : Nat} {av : Array Value} {st0 : List Value} (hr : va_Run p l e R s m args below meth c H locs cells slots mc ms (F0 m pc ls st0) rest (va_Qi post (Po G k (va_A wi H.size) wo) (va_A wi H.size) av) (va_A wi H.size))
    (kk : ∀ (r : Int32) (u : S) (H1 : Heap) (locs1 : List Loc), post r u → Sw G A s.heap H1 locs1 (wr ++ wo u) → W p l e R s m args below meth c H1 locs1 (cells + mc) (slots + ms) Q (F0 m (pc + 3) ls (.int r :: rest))) : W p l e R s m args below meth c H locs cells slots Q (F0 m pc ls st0) := by
  have hF := va_free (wc := wi) St.2.1 St.2.2 hA isC hC
  refine va_calli hr St.2.2 (fun q _ h => hF q h) hF (fun r u t H1 l1 ht hvm hp hB hz hk hS => ?_)
  obtain ⟨hP, hD⟩ := va_join (wr := wr) (w1 := wo u) St.1 St.2.1 isC isR hC hR hn hdis hk hF (by rw [← ht]; exact hB.1) hB.2.2
  exact kk r u H1 l1 hp ⟨hP, hD, hS⟩
theorem r_backl {S : Type} {post : Int64 → S → Prop} {wo : S → va_W} {wi wr : va_W} (St : Sw G A s.heap H locs ws) (hA : ∀ q, s.heap.size ≤ q → A q) (isC isR : List Nat) (hC : isC.map (fun i => ws[i]?) = wi.map some) (hR : isR.map (fun i => ws[i]?) = wr.map some) (hn : va_nd isR = true) (hdis : ∀ i ∈ isR, i ∉ isC) {mc ms : Nat} {av : Array Value} {st0 : List Value} (hr : va_Run p l e R s m args below meth c H locs cells slots mc ms (F0 m pc ls st0) rest (va_Ql post (Po G k (va_A wi H.size) wo) (va_A wi H.size) av) (va_A wi H.size))
    (kk : ∀ (r : Int64) (u : S) (H1 : Heap) (locs1 : List Loc), post r u → Sw G A s.heap H1 locs1 (wr ++ wo u) → W p l e R s m args below meth c H1 locs1 (cells + mc) (slots + ms) Q (F0 m (pc + 3) ls (.long r :: rest))) : W p l e R s m args below meth c H locs cells slots Q (F0 m pc ls st0) := by
  have hF := va_free (wc := wi) St.2.1 St.2.2 hA isC hC
  refine va_calll hr St.2.2 (fun q _ h => hF q h) hF (fun r u t H1 l1 ht hvm hp hB hz hk hS => ?_)
  obtain ⟨hP, hD⟩ := va_join (wr := wr) (w1 := wo u) St.1 St.2.1 isC isR hC hR hn hdis hk hF (by rw [← ht]; exact hB.1) hB.2.2
  exact kk r u H1 l1 hp ⟨hP, hD, hS⟩
/-- the callee's side of a call: a constructor of the same class file's own, or of a nest mate; a method; a private one; a static one -/
theorem k_ctor (C : Cx p s m args meth c cc own nL ret nm) {y : MethodName} {bytes : ByteArray} {maxL mc ms n index : Nat} {rm : Room} (hw : Cond.code y bytes maxL none ∈ gt) (hrc : rm.cells = mc) (hrs : rm.slots = ms) (hz : Cond.initialized y.cls ∈ gt) (hl : Cond.methodLink own index y ∈ gt) (hi : Cond.instanceMethod y ∈ gt) (hy : y.name = "<init>") (hd : y.cls ≠ "java/lang/invoke/MethodHandle" ∧ y.cls ≠ "java/lang/invoke/VarHandle" ∧ (parseMethodDescriptor y.desc).map (fun d => d.parameters.length) = some n) (hR : rm.frames + 1 ≤ R.frames ∧ 8 + (maxL + 11) + rm.locals ≤ R.locals) : CallB R s args own index y bytes maxL none (wy y bytes maxL none) rm mc ms n ∧ y.name = "<init>" ∧ (Cond.instanceMethod y).before args s = true :=
  cwI n C.2.2.2.2.1 (gt_self hw) rfl hrc hrs (C.2.2.2.2.1 _ hz) (C.2.2.2.2.1 _ hl) (C.2.2.2.2.1 _ hi) hy hd hR
theorem k_ctorN (C : Cx p s m args meth c cc own nL ret nm) (K : Kn G k s) {y : MethodName} {bytes : ByteArray} {maxL mc ms n index : Nat} {rm : Room} {host : String} (hw : Cond.code y bytes maxL none ∈ gt) (hrc : rm.cells = mc) (hrs : rm.slots = ms) (hz : Cond.initialized y.cls ∈ gt) (hl : Cond.methodLinkNest own index y host ∈ tables_1) (hi : Cond.instanceMethod y ∈ gt) (hy : y.name = "<init>") (hd : y.cls ≠ "java/lang/invoke/MethodHandle" ∧ y.cls ≠ "java/lang/invoke/VarHandle" ∧ (parseMethodDescriptor y.desc).map (fun d => d.parameters.length) = some n) (hR : rm.frames + 1 ≤ R.frames ∧ 8 + (maxL + 11) + rm.locals ≤ R.locals) : va_CN R s args own index y host bytes maxL none (wy y bytes maxL none) rm mc ms n ∧ y.name = "<init>" ∧ (Cond.instanceMethod y).before args s = true :=
  ⟨va_cnB n C.2.2.2.2.1 (gt_self hw) rfl hrc hrs (K.2.1 _ hl rfl) (C.2.2.2.2.1 _ hz) hd hR, hy, C.2.2.2.2.1 _ hi⟩
theorem k_virt (C : Cx p s m args meth c cc own nL ret nm) {y : MethodName} {bytes : ByteArray} {maxL mc ms n index : Nat} {rm : Room} {rt : Option FieldType} {N : String} (hw : Cond.code y bytes maxL rt ∈ gt) (hrc : rm.cells = mc) (hrs : rm.slots = ms) (hz : Cond.initialized y.cls ∈ gt) (hl : Cond.methodLink own index y ∈ gt) (hi : Cond.instanceMethod y ∈ gt) (hs : Cond.selects N y y ∈ gt) (hd : y.cls ≠ "java/lang/invoke/MethodHandle" ∧ y.cls ≠ "java/lang/invoke/VarHandle" ∧ (parseMethodDescriptor y.desc).map (fun d => d.parameters.length) = some n) (hR : rm.frames + 1 ≤ R.frames ∧ 8 + (maxL + 11) + rm.locals ≤ R.locals) : CallW R s args own N index y bytes maxL rt (wy y bytes maxL rt) rm mc ms n :=
  ⟨callB_of n C.2.2.2.2.1 (gt_self hw) rfl hrc hrs (C.2.2.2.2.1 _ hz) (C.2.2.2.2.1 _ hl) hd hR, C.2.2.2.2.1 _ hi, C.2.2.2.2.1 _ hs⟩
theorem k_virtN (C : Cx p s m args meth c cc own nL ret nm) (K : Kn G k s) {y : MethodName} {bytes : ByteArray} {maxL mc ms n index : Nat} {rm : Room} {rt : Option FieldType} {host N : String} (hw : Cond.code y bytes maxL rt ∈ gt) (hrc : rm.cells = mc) (hrs : rm.slots = ms) (hz : Cond.initialized y.cls ∈ gt) (hl : Cond.methodLinkNest own index y host ∈ tables_1) (hi : Cond.instanceMethod y ∈ gt) (hs : Cond.selects N y y ∈ gt) (hd : y.cls ≠ "java/lang/invoke/MethodHandle" ∧ y.cls ≠ "java/lang/invoke/VarHandle" ∧ (parseMethodDescriptor y.desc).map (fun d => d.parameters.length) = some n) (hR : rm.frames + 1 ≤ R.frames ∧ 8 + (maxL + 11) + rm.locals ≤ R.locals) : va_CN R s args own index y host bytes maxL rt (wy y bytes maxL rt) rm mc ms n ∧ (Cond.instanceMethod y).before args s = true ∧ (Cond.selects N y y).before args s = true :=
  ⟨va_cnB n C.2.2.2.2.1 (gt_self hw) rfl hrc hrs (K.2.1 _ hl rfl) (C.2.2.2.2.1 _ hz) hd hR, C.2.2.2.2.1 _ hi, C.2.2.2.2.1 _ hs⟩
end ROWS2
end
section
abbrev ul (l : List Nat) : Nat → Nat := fun j => l.getD j 0
theorem df_So : ∀ j, j < 14 → defaultValue (t_So j) = vp_V [.null, .null, .null, .null, .null, .null, .null, .null, .null, .null, .int 0, .int 0, .int 0, .int 0] j := by decide +kernel
theorem df_Wh : ∀ j, j < 3 → defaultValue (t_Wh j) = vp_V [.null, .int 0, .int 0] j := by decide +kernel
theorem df_Be : ∀ j, j < 8 → defaultValue (t_Be j) = vp_V [.null, .null, .null, .null, .null, .null, .int 0, .int 0] j := by decide +kernel
theorem df_Bo : ∀ j, j < 9 → defaultValue (t_Bo j) = vp_V [.null, .null, .null, .null, .null, .null, .int 0, .int 0, .int 0] j := by decide +kernel
theorem df_Re : ∀ j, j < 5 → defaultValue (t_Re j) = vp_V [.null, .null, .int 0, .int 0, .int 0] j := by decide +kernel
theorem df_Ru : ∀ j, j < 12 → defaultValue (t_Ru j) = vp_V [.null, .null, .null, .null, .null, .int 0, .int 0, .int 0, .int 0, .int 0, .long 0, .int 0] j := by decide +kernel
theorem df_Ne : ∀ j, j < 12 → defaultValue (t_Ne j) = vp_V [.null, .null, .null, .null, .null, .null, .null, .null, .null, .int 0, .int 0, .int 0] j := by decide +kernel
theorem df_PB : ∀ j, j < 9 → defaultValue (t_PB j) = vp_V [.null, .null, .null, .null, .null, .null, .int 0, .int 0, .int 0] j := by decide +kernel
theorem df_Mo : ∀ j, j < 61 → defaultValue (t_Mo j) = vp_V [.int 0, .null, .null, .null, .int 0, .null, .null, .null, .null, .int 0, .long 0, .int 0, .int 0, .null, .null, .null, .null, .null, .int 0, .null, .int 0, .int 0, .int 0, .int 0, .int 0, .int 0, .int 0, .null, .int 0, .int 0, .int 0, .int 0, .null, .null, .int 0, .null, .null, .null, .null, .null, .int 0, .null, .null, .null, .null, .null, .null, .null, .int 0, .int 0, .int 0, .int 0, .int 0, .int 0, .int 0, .null, .null, .int 0, .int 0, .int 0, .int 0] j := by decide +kernel
theorem d_Wh_init_0 : decode c_Wh_init 0 = .ok (.aload_n 0, 1) := by decide +kernel
theorem d_Wh_init_1 : decode c_Wh_init 1 = .ok (.invokespecial 3, 3) := by decide +kernel
theorem d_Wh_init_4 : decode c_Wh_init 4 = .ok (.aload_n 0, 1) := by decide +kernel
theorem d_Wh_init_5 : decode c_Wh_init 5 = .ok (.iconst 3, 1) := by decide +kernel
theorem d_Wh_init_6 : decode c_Wh_init 6 = .ok (.newarray .int, 2) := by decide +kernel
theorem d_Wh_init_8 : decode c_Wh_init 8 = .ok (.putfield 9, 3) := by decide +kernel
theorem d_Wh_init_11 : decode c_Wh_init 11 = .ok (.return_, 1) := by decide +kernel
set_option maxRecDepth 100000 in
set_option maxHeartbeats 4000000 in
/-- Whole(): three digits, 0 -/
theorem k_Wh_init (l : Launch) (G : va_G) (k : Nat → ClassId) (h0 sz : Nat) : CV l y_Wh_init c_Wh_init 1 { frames := 1, cells := 1, slots := 3, locals := 20 } [.ref h0] G k sz [(h0, .inr (2, [.null, .int 0, .int 0]))] (fun _ : Nat → Nat => True) (fun u => [(h0, .inr (2, [.ref (u 0), .int 0, .int 0])), ((u 0), .inl (k 0, 3, .inl (fun _ => 0)))]) 1 3 := by
  refine met_start (by decide) (Nat.le_of_ble_eq_true rfl) ?_
  intro p e s m below meth c C K hA hsz S ls hl
  generalize va_A [(h0, .inr (2, [.null, .int 0, .int 0]))] sz = A at hA S ⊢
  have hx := C.1
  have hb := C.2.1
  have hl : lv_has ls 1 [(0, .ref h0)] := hl
  refine lv_aload_n hx hb d_Wh_init_0 rfl (lv_at hl 0 rfl) ?_
  refine r_objInit C wm_Wh_3 hl.1 d_Wh_init_1 (Nat.le_of_ble_eq_true rfl) (Nat.le_of_ble_eq_true rfl) ?_
  refine lv_aload_n hx hb d_Wh_init_4 rfl (lv_at hl 0 rfl) ?_
  refine lv_iconst (v := 3) hx hb d_Wh_init_5 (by decide) ?_
  refine r_newI C K S hA 3 (by decide) (by decide) (by decide) (Nat.le_of_ble_eq_true rfl) (Nat.le_of_ble_eq_true rfl) d_Wh_init_6 (fun q1 H S => ?_)
  have S : Sw G A s.heap _ _ [(h0, .inr (2, [.null, .int 0, .int 0])), (q1, .inl (k 0, 3, .inl (fun _ => 0)))] := S
  refine r_put C K S 0 rfl rfl clOk_Wh 0 (by decide) wf_Wh_9 rfl (ty := .array .int) (v := .ref q1) (by decide +kernel) rfl rfl (Nat.le_of_ble_eq_true rfl) (fs' := [.ref q1, .int 0, .int 0]) (ws' := [(h0, .inr (2, [.ref q1, .int 0, .int 0])), (q1, .inl (k 0, 3, .inl (fun _ => 0)))]) rfl rfl d_Wh_init_8 (fun H locs S => ?_)
  exact r_vret C K (ul [q1]) trivial (S.sub [0, 1] (by decide) rfl) d_Wh_init_11 (Nat.le_of_ble_eq_true rfl) (Nat.le_of_ble_eq_true rfl)
theorem d_Bo_init_0 : decode c_Bo_init 0 = .ok (.aload_n 0, 1) := by decide +kernel
theorem d_Bo_init_1 : decode c_Bo_init 1 = .ok (.invokespecial 3, 3) := by decide +kernel
theorem d_Bo_init_4 : decode c_Bo_init 4 = .ok (.aload_n 0, 1) := by decide +kernel
theorem d_Bo_init_5 : decode c_Bo_init 5 = .ok (.sipush 200, 3) := by decide +kernel
theorem d_Bo_init_8 : decode c_Bo_init 8 = .ok (.newarray .int, 2) := by decide +kernel
theorem d_Bo_init_10 : decode c_Bo_init 10 = .ok (.putfield 9, 3) := by decide +kernel
theorem d_Bo_init_13 : decode c_Bo_init 13 = .ok (.aload_n 0, 1) := by decide +kernel
theorem d_Bo_init_14 : decode c_Bo_init 14 = .ok (.bipush 40, 2) := by decide +kernel
theorem d_Bo_init_16 : decode c_Bo_init 16 = .ok (.newarray .int, 2) := by decide +kernel
theorem d_Bo_init_18 : decode c_Bo_init 18 = .ok (.putfield 15, 3) := by decide +kernel
theorem d_Bo_init_21 : decode c_Bo_init 21 = .ok (.aload_n 0, 1) := by decide +kernel
theorem d_Bo_init_22 : decode c_Bo_init 22 = .ok (.bipush 40, 2) := by decide +kernel
theorem d_Bo_init_24 : decode c_Bo_init 24 = .ok (.newarray .int, 2) := by decide +kernel
theorem d_Bo_init_26 : decode c_Bo_init 26 = .ok (.putfield 18, 3) := by decide +kernel
theorem d_Bo_init_29 : decode c_Bo_init 29 = .ok (.aload_n 0, 1) := by decide +kernel
theorem d_Bo_init_30 : decode c_Bo_init 30 = .ok (.bipush 40, 2) := by decide +kernel
theorem d_Bo_init_32 : decode c_Bo_init 32 = .ok (.newarray .int, 2) := by decide +kernel
theorem d_Bo_init_34 : decode c_Bo_init 34 = .ok (.putfield 21, 3) := by decide +kernel
theorem d_Bo_init_37 : decode c_Bo_init 37 = .ok (.aload_n 0, 1) := by decide +kernel
theorem d_Bo_init_38 : decode c_Bo_init 38 = .ok (.bipush 40, 2) := by decide +kernel
theorem d_Bo_init_40 : decode c_Bo_init 40 = .ok (.newarray .int, 2) := by decide +kernel
theorem d_Bo_init_42 : decode c_Bo_init 42 = .ok (.putfield 24, 3) := by decide +kernel
theorem d_Bo_init_45 : decode c_Bo_init 45 = .ok (.aload_n 0, 1) := by decide +kernel
theorem d_Bo_init_46 : decode c_Bo_init 46 = .ok (.bipush 40, 2) := by decide +kernel
theorem d_Bo_init_48 : decode c_Bo_init 48 = .ok (.newarray .int, 2) := by decide +kernel
theorem d_Bo_init_50 : decode c_Bo_init 50 = .ok (.putfield 27, 3) := by decide +kernel
theorem d_Bo_init_53 : decode c_Bo_init 53 = .ok (.return_, 1) := by decide +kernel
set_option maxRecDepth 100000 in
set_option maxHeartbeats 4000000 in
/-- Body(): six rows of 0 -/
theorem k_Bo_init (l : Launch) (G : va_G) (k : Nat → ClassId) (h0 sz : Nat) : CV l y_Bo_init c_Bo_init 1 { frames := 1, cells := 6, slots := 400, locals := 20 } [.ref h0] G k sz [(h0, .inr (4, [.null, .null, .null, .null, .null, .null, .int 0, .int 0, .int 0]))] (fun _ : Nat → Nat => True) (fun u => [(h0, .inr (4, [.ref (u 0), .ref (u 1), .ref (u 2), .ref (u 3), .ref (u 4), .ref (u 5), .int 0, .int 0, .int 0])), ((u 0), .inl (k 0, 200, .inl (fun _ => 0))), ((u 1), .inl (k 0, 40, .inl (fun _ => 0))), ((u 2), .inl (k 0, 40, .inl (fun _ => 0))), ((u 3), .inl (k 0, 40, .inl (fun _ => 0))), ((u 4), .inl (k 0, 40, .inl (fun _ => 0))), ((u 5), .inl (k 0, 40, .inl (fun _ => 0)))]) 6 400 := by
  refine met_start (by decide) (Nat.le_of_ble_eq_true rfl) ?_
  intro p e s m below meth c C K hA hsz S ls hl
  generalize va_A [(h0, .inr (4, [.null, .null, .null, .null, .null, .null, .int 0, .int 0, .int 0]))] sz = A at hA S ⊢
  have hx := C.1
  have hb := C.2.1
  have hl : lv_has ls 1 [(0, .ref h0)] := hl
  refine lv_aload_n hx hb d_Bo_init_0 rfl (lv_at hl 0 rfl) ?_
  refine r_objInit C wm_Bo_3 hl.1 d_Bo_init_1 (Nat.le_of_ble_eq_true rfl) (Nat.le_of_ble_eq_true rfl) ?_
  refine lv_aload_n hx hb d_Bo_init_4 rfl (lv_at hl 0 rfl) ?_
  refine lv_sipush (v := 200) hx hb d_Bo_init_5 (by decide) ?_
  refine r_newI C K S hA 200 (by decide) (by decide) (by decide) (Nat.le_of_ble_eq_true rfl) (Nat.le_of_ble_eq_true rfl) d_Bo_init_8 (fun q1 H S => ?_)
  have S : Sw G A s.heap _ _ [(h0, .inr (4, [.null, .null, .null, .null, .null, .null, .int 0, .int 0, .int 0])), (q1, .inl (k 0, 200, .inl (fun _ => 0)))] := S
  refine r_putF C K S 0 rfl rfl clOk_Bo 0 (by decide) wf_Bo_9 rfl rfl (ty := .array .int) (v := .ref q1) (by decide +kernel) rfl rfl (Nat.le_of_ble_eq_true rfl) (fs' := [.ref q1, .null, .null, .null, .null, .null, .int 0, .int 0, .int 0]) (ws' := [(h0, .inr (4, [.ref q1, .null, .null, .null, .null, .null, .int 0, .int 0, .int 0])), (q1, .inl (k 0, 200, .inl (fun _ => 0)))]) rfl rfl d_Bo_init_10 (fun H locs S => ?_)
  refine lv_aload_n hx hb d_Bo_init_13 rfl (lv_at hl 0 rfl) ?_
  refine lv_bipush (v := 40) hx hb d_Bo_init_14 (by decide) ?_
  refine r_newI C K S hA 40 (by decide) (by decide) (by decide) (Nat.le_of_ble_eq_true rfl) (Nat.le_of_ble_eq_true rfl) d_Bo_init_16 (fun q2 H S => ?_)
  have S : Sw G A s.heap _ _ [(h0, .inr (4, [.ref q1, .null, .null, .null, .null, .null, .int 0, .int 0, .int 0])), (q1, .inl (k 0, 200, .inl (fun _ => 0))), (q2, .inl (k 0, 40, .inl (fun _ => 0)))] := S
  refine r_putF C K S 0 rfl rfl clOk_Bo 1 (by decide) wf_Bo_15 rfl rfl (ty := .array .int) (v := .ref q2) (by decide +kernel) rfl rfl (Nat.le_of_ble_eq_true rfl) (fs' := [.ref q1, .ref q2, .null, .null, .null, .null, .int 0, .int 0, .int 0]) (ws' := [(h0, .inr (4, [.ref q1, .ref q2, .null, .null, .null, .null, .int 0, .int 0, .int 0])), (q1, .inl (k 0, 200, .inl (fun _ => 0))), (q2, .inl (k 0, 40, .inl (fun _ => 0)))]) rfl rfl d_Bo_init_18 (fun H locs S => ?_)
  refine lv_aload_n hx hb d_Bo_init_21 rfl (lv_at hl 0 rfl) ?_
  refine lv_bipush (v := 40) hx hb d_Bo_init_22 (by decide) ?_
  refine r_newI C K S hA 40 (by decide) (by decide) (by decide) (Nat.le_of_ble_eq_true rfl) (Nat.le_of_ble_eq_true rfl) d_Bo_init_24 (fun q3 H S => ?_)
  have S : Sw G A s.heap _ _ [(h0, .inr (4, [.ref q1, .ref q2, .null, .null, .null, .null, .int 0, .int 0, .int 0])), (q1, .inl (k 0, 200, .inl (fun _ => 0))), (q2, .inl (k 0, 40, .inl (fun _ => 0))), (q3, .inl (k 0, 40, .inl (fun _ => 0)))] := S
  refine r_putF C K S 0 rfl rfl clOk_Bo 2 (by decide) wf_Bo_18 rfl rfl (ty := .array .int) (v := .ref q3) (by decide +kernel) rfl rfl (Nat.le_of_ble_eq_true rfl) (fs' := [.ref q1, .ref q2, .ref q3, .null, .null, .null, .int 0, .int 0, .int 0]) (ws' := [(h0, .inr (4, [.ref q1, .ref q2, .ref q3, .null, .null, .null, .int 0, .int 0, .int 0])), (q1, .inl (k 0, 200, .inl (fun _ => 0))), (q2, .inl (k 0, 40, .inl (fun _ => 0))), (q3, .inl (k 0, 40, .inl (fun _ => 0)))]) rfl rfl d_Bo_init_26 (fun H locs S => ?_)
  refine lv_aload_n hx hb d_Bo_init_29 rfl (lv_at hl 0 rfl) ?_
  refine lv_bipush (v := 40) hx hb d_Bo_init_30 (by decide) ?_
  refine r_newI C K S hA 40 (by decide) (by decide) (by decide) (Nat.le_of_ble_eq_true rfl) (Nat.le_of_ble_eq_true rfl) d_Bo_init_32 (fun q4 H S => ?_)
  have S : Sw G A s.heap _ _ [(h0, .inr (4, [.ref q1, .ref q2, .ref q3, .null, .null, .null, .int 0, .int 0, .int 0])), (q1, .inl (k 0, 200, .inl (fun _ => 0))), (q2, .inl (k 0, 40, .inl (fun _ => 0))), (q3, .inl (k 0, 40, .inl (fun _ => 0))), (q4, .inl (k 0, 40, .inl (fun _ => 0)))] := S
  refine r_putF C K S 0 rfl rfl clOk_Bo 3 (by decide) wf_Bo_21 rfl rfl (ty := .array .int) (v := .ref q4) (by decide +kernel) rfl rfl (Nat.le_of_ble_eq_true rfl) (fs' := [.ref q1, .ref q2, .ref q3, .ref q4, .null, .null, .int 0, .int 0, .int 0]) (ws' := [(h0, .inr (4, [.ref q1, .ref q2, .ref q3, .ref q4, .null, .null, .int 0, .int 0, .int 0])), (q1, .inl (k 0, 200, .inl (fun _ => 0))), (q2, .inl (k 0, 40, .inl (fun _ => 0))), (q3, .inl (k 0, 40, .inl (fun _ => 0))), (q4, .inl (k 0, 40, .inl (fun _ => 0)))]) rfl rfl d_Bo_init_34 (fun H locs S => ?_)
  refine lv_aload_n hx hb d_Bo_init_37 rfl (lv_at hl 0 rfl) ?_
  refine lv_bipush (v := 40) hx hb d_Bo_init_38 (by decide) ?_
  refine r_newI C K S hA 40 (by decide) (by decide) (by decide) (Nat.le_of_ble_eq_true rfl) (Nat.le_of_ble_eq_true rfl) d_Bo_init_40 (fun q5 H S => ?_)
  have S : Sw G A s.heap _ _ [(h0, .inr (4, [.ref q1, .ref q2, .ref q3, .ref q4, .null, .null, .int 0, .int 0, .int 0])), (q1, .inl (k 0, 200, .inl (fun _ => 0))), (q2, .inl (k 0, 40, .inl (fun _ => 0))), (q3, .inl (k 0, 40, .inl (fun _ => 0))), (q4, .inl (k 0, 40, .inl (fun _ => 0))), (q5, .inl (k 0, 40, .inl (fun _ => 0)))] := S
  refine r_putF C K S 0 rfl rfl clOk_Bo 4 (by decide) wf_Bo_24 rfl rfl (ty := .array .int) (v := .ref q5) (by decide +kernel) rfl rfl (Nat.le_of_ble_eq_true rfl) (fs' := [.ref q1, .ref q2, .ref q3, .ref q4, .ref q5, .null, .int 0, .int 0, .int 0]) (ws' := [(h0, .inr (4, [.ref q1, .ref q2, .ref q3, .ref q4, .ref q5, .null, .int 0, .int 0, .int 0])), (q1, .inl (k 0, 200, .inl (fun _ => 0))), (q2, .inl (k 0, 40, .inl (fun _ => 0))), (q3, .inl (k 0, 40, .inl (fun _ => 0))), (q4, .inl (k 0, 40, .inl (fun _ => 0))), (q5, .inl (k 0, 40, .inl (fun _ => 0)))]) rfl rfl d_Bo_init_42 (fun H locs S => ?_)
  refine lv_aload_n hx hb d_Bo_init_45 rfl (lv_at hl 0 rfl) ?_
  refine lv_bipush (v := 40) hx hb d_Bo_init_46 (by decide) ?_
  refine r_newI C K S hA 40 (by decide) (by decide) (by decide) (Nat.le_of_ble_eq_true rfl) (Nat.le_of_ble_eq_true rfl) d_Bo_init_48 (fun q6 H S => ?_)
  have S : Sw G A s.heap _ _ [(h0, .inr (4, [.ref q1, .ref q2, .ref q3, .ref q4, .ref q5, .null, .int 0, .int 0, .int 0])), (q1, .inl (k 0, 200, .inl (fun _ => 0))), (q2, .inl (k 0, 40, .inl (fun _ => 0))), (q3, .inl (k 0, 40, .inl (fun _ => 0))), (q4, .inl (k 0, 40, .inl (fun _ => 0))), (q5, .inl (k 0, 40, .inl (fun _ => 0))), (q6, .inl (k 0, 40, .inl (fun _ => 0)))] := S
  refine r_putF C K S 0 rfl rfl clOk_Bo 5 (by decide) wf_Bo_27 rfl rfl (ty := .array .int) (v := .ref q6) (by decide +kernel) rfl rfl (Nat.le_of_ble_eq_true rfl) (fs' := [.ref q1, .ref q2, .ref q3, .ref q4, .ref q5, .ref q6, .int 0, .int 0, .int 0]) (ws' := [(h0, .inr (4, [.ref q1, .ref q2, .ref q3, .ref q4, .ref q5, .ref q6, .int 0, .int 0, .int 0])), (q1, .inl (k 0, 200, .inl (fun _ => 0))), (q2, .inl (k 0, 40, .inl (fun _ => 0))), (q3, .inl (k 0, 40, .inl (fun _ => 0))), (q4, .inl (k 0, 40, .inl (fun _ => 0))), (q5, .inl (k 0, 40, .inl (fun _ => 0))), (q6, .inl (k 0, 40, .inl (fun _ => 0)))]) rfl rfl d_Bo_init_50 (fun H locs S => ?_)
  exact r_vret C K (ul [q1, q2, q3, q4, q5, q6]) trivial (S.sub [0, 1, 2, 3, 4, 5, 6] (by decide) rfl) d_Bo_init_53 (Nat.le_of_ble_eq_true rfl) (Nat.le_of_ble_eq_true rfl)
theorem d_Re_init_0 : decode c_Re_init 0 = .ok (.aload_n 0, 1) := by decide +kernel
theorem d_Re_init_1 : decode c_Re_init 1 = .ok (.invokespecial 3, 3) := by decide +kernel
theorem d_Re_init_4 : decode c_Re_init 4 = .ok (.aload_n 0, 1) := by decide +kernel
theorem d_Re_init_5 : decode c_Re_init 5 = .ok (.bipush (-2), 2) := by decide +kernel
theorem d_Re_init_7 : decode c_Re_init 7 = .ok (.putfield 9, 3) := by decide +kernel
theorem d_Re_init_10 : decode c_Re_init 10 = .ok (.aload_n 0, 1) := by decide +kernel
theorem d_Re_init_11 : decode c_Re_init 11 = .ok (.aload_n 1, 1) := by decide +kernel
theorem d_Re_init_12 : decode c_Re_init 12 = .ok (.putfield 15, 3) := by decide +kernel
theorem d_Re_init_15 : decode c_Re_init 15 = .ok (.aload_n 0, 1) := by decide +kernel
theorem d_Re_init_16 : decode c_Re_init 16 = .ok (.aload_n 1, 1) := by decide +kernel
theorem d_Re_init_17 : decode c_Re_init 17 = .ok (.iconst 0, 1) := by decide +kernel
theorem d_Re_init_18 : decode c_Re_init 18 = .ok (.aaload, 1) := by decide +kernel
theorem d_Re_init_19 : decode c_Re_init 19 = .ok (.putfield 19, 3) := by decide +kernel
theorem d_Re_init_22 : decode c_Re_init 22 = .ok (.return_, 1) := by decide +kernel
set_option maxRecDepth 100000 in
set_option maxHeartbeats 4000000 in
/-- Reader(bodies) -/
theorem k_Re_init (l : Launch) (G : va_G) (k : Nat → ClassId) (h0 sz : Nat) (b b0 : Nat) (f : Nat → Option Nat) (hf : f 0 = some b0) : CV l y_Re_init c_Re_init 2 { frames := 1, cells := 0, slots := 0, locals := 20 } [.ref h0, .ref b] G k sz [(h0, .inr (5, [.null, .null, .int 0, .int 0, .int 0])), (b, .inl (k 3, 4, .inr (.inr (.inr (.inr f)))))] (fun _ : Nat → Nat => True) (fun u => [(h0, .inr (5, [.ref b, .ref b0, .int 0, .int 0, .int (-2)])), (b, .inl (k 3, 4, .inr (.inr (.inr (.inr f)))))]) 0 0 := by
  refine met_start (by decide) (Nat.le_of_ble_eq_true rfl) ?_
  intro p e s m below meth c C K hA hsz S ls hl
  generalize va_A [(h0, .inr (5, [.null, .null, .int 0, .int 0, .int 0])), (b, .inl (k 3, 4, .inr (.inr (.inr (.inr f)))))] sz = A at hA S ⊢
  have hx := C.1
  have hb := C.2.1
  have hl : lv_has ls 2 [(0, .ref h0), (1, .ref b)] := hl
  refine lv_aload_n hx hb d_Re_init_0 rfl (lv_at hl 0 rfl) ?_
  refine r_objInit C wm_Re_3 hl.1 d_Re_init_1 (Nat.le_of_ble_eq_true rfl) (Nat.le_of_ble_eq_true rfl) ?_
  refine lv_aload_n hx hb d_Re_init_4 rfl (lv_at hl 0 rfl) ?_
  refine lv_bipush (v := (-2)) hx hb d_Re_init_5 (by decide) ?_
  refine r_put C K S 0 rfl rfl clOk_Re 4 (by decide) wf_Re_9 rfl (ty := .int) (v := .int (-2)) (by decide +kernel) rfl rfl (Nat.le_of_ble_eq_true rfl) (fs' := [.null, .null, .int 0, .int 0, .int (-2)]) (ws' := [(h0, .inr (5, [.null, .null, .int 0, .int 0, .int (-2)])), (b, .inl (k 3, 4, .inr (.inr (.inr (.inr f)))))]) rfl rfl d_Re_init_7 (fun H locs S => ?_)
  refine lv_aload_n hx hb d_Re_init_10 rfl (lv_at hl 0 rfl) ?_
  refine lv_aload_n hx hb d_Re_init_11 rfl (lv_at hl 1 rfl) ?_
  refine r_putF C K S 0 rfl rfl clOk_Re 0 (by decide) wf_Re_15 rfl rfl (ty := .array (.object "PotentialBench$Body")) (v := .ref b) (by decide +kernel) rfl rfl (Nat.le_of_ble_eq_true rfl) (fs' := [.ref b, .null, .int 0, .int 0, .int (-2)]) (ws' := [(h0, .inr (5, [.ref b, .null, .int 0, .int 0, .int (-2)])), (b, .inl (k 3, 4, .inr (.inr (.inr (.inr f)))))]) rfl rfl d_Re_init_12 (fun H locs S => ?_)
  refine lv_aload_n hx hb d_Re_init_15 rfl (lv_at hl 0 rfl) ?_
  refine lv_aload_n hx hb d_Re_init_16 rfl (lv_at hl 1 rfl) ?_
  refine lv_iconst (v := 0) hx hb d_Re_init_17 (by decide) ?_
  refine r_aald C K S 1 3 rfl rfl (i := 0) (by unfold vp_in; decide) (b := b0) (by rw [show (0 : Int32).toNatClampNeg = 0 from by decide]; exact hf) d_Re_init_18 ?_
  refine r_put C K S 0 rfl rfl clOk_Re 1 (by decide) wf_Re_19 rfl (ty := .object "PotentialBench$Body") (v := .ref b0) (by decide +kernel) rfl rfl (Nat.le_of_ble_eq_true rfl) (fs' := [.ref b, .ref b0, .int 0, .int 0, .int (-2)]) (ws' := [(h0, .inr (5, [.ref b, .ref b0, .int 0, .int 0, .int (-2)])), (b, .inl (k 3, 4, .inr (.inr (.inr (.inr f)))))]) rfl rfl d_Re_init_19 (fun H locs S => ?_)
  exact r_vret C K (ul []) trivial (S.sub [0, 1] (by decide) rfl) d_Re_init_22 (Nat.le_of_ble_eq_true rfl) (Nat.le_of_ble_eq_true rfl)
theorem d_Ru_init_0 : decode c_Ru_init 0 = .ok (.aload_n 0, 1) := by decide +kernel
theorem d_Ru_init_1 : decode c_Ru_init 1 = .ok (.invokespecial 3, 3) := by decide +kernel
theorem d_Ru_init_4 : decode c_Ru_init 4 = .ok (.aload_n 0, 1) := by decide +kernel
theorem d_Ru_init_5 : decode c_Ru_init 5 = .ok (.bipush 60, 2) := by decide +kernel
theorem d_Ru_init_7 : decode c_Ru_init 7 = .ok (.newarray .int, 2) := by decide +kernel
theorem d_Ru_init_9 : decode c_Ru_init 9 = .ok (.putfield 9, 3) := by decide +kernel
theorem d_Ru_init_12 : decode c_Ru_init 12 = .ok (.aload_n 0, 1) := by decide +kernel
theorem d_Ru_init_13 : decode c_Ru_init 13 = .ok (.sipush 1080, 3) := by decide +kernel
theorem d_Ru_init_16 : decode c_Ru_init 16 = .ok (.newarray .int, 2) := by decide +kernel
theorem d_Ru_init_18 : decode c_Ru_init 18 = .ok (.putfield 15, 3) := by decide +kernel
theorem d_Ru_init_21 : decode c_Ru_init 21 = .ok (.aload_n 0, 1) := by decide +kernel
theorem d_Ru_init_22 : decode c_Ru_init 22 = .ok (.sipush 960, 3) := by decide +kernel
theorem d_Ru_init_25 : decode c_Ru_init 25 = .ok (.newarray .int, 2) := by decide +kernel
theorem d_Ru_init_27 : decode c_Ru_init 27 = .ok (.putfield 18, 3) := by decide +kernel
theorem d_Ru_init_30 : decode c_Ru_init 30 = .ok (.aload_n 0, 1) := by decide +kernel
theorem d_Ru_init_31 : decode c_Ru_init 31 = .ok (.bipush 60, 2) := by decide +kernel
theorem d_Ru_init_33 : decode c_Ru_init 33 = .ok (.newarray .int, 2) := by decide +kernel
theorem d_Ru_init_35 : decode c_Ru_init 35 = .ok (.putfield 21, 3) := by decide +kernel
theorem d_Ru_init_38 : decode c_Ru_init 38 = .ok (.aload_n 0, 1) := by decide +kernel
theorem d_Ru_init_39 : decode c_Ru_init 39 = .ok (.bipush (-2), 2) := by decide +kernel
theorem d_Ru_init_41 : decode c_Ru_init 41 = .ok (.putfield 24, 3) := by decide +kernel
theorem d_Ru_init_44 : decode c_Ru_init 44 = .ok (.aload_n 0, 1) := by decide +kernel
theorem d_Ru_init_45 : decode c_Ru_init 45 = .ok (.aload_n 1, 1) := by decide +kernel
theorem d_Ru_init_46 : decode c_Ru_init 46 = .ok (.putfield 28, 3) := by decide +kernel
theorem d_Ru_init_49 : decode c_Ru_init 49 = .ok (.return_, 1) := by decide +kernel
set_option maxRecDepth 100000 in
set_option maxHeartbeats 4000000 in
/-- Runner(bodies) -/
theorem k_Ru_init (l : Launch) (G : va_G) (k : Nat → ClassId) (h0 sz : Nat) (b : Nat) : CV l y_Ru_init c_Ru_init 2 { frames := 1, cells := 4, slots := 2160, locals := 20 } [.ref h0, .ref b] G k sz [(h0, .inr (6, [.null, .null, .null, .null, .null, .int 0, .int 0, .int 0, .int 0, .int 0, .long 0, .int 0]))] (fun _ : Nat → Nat => True) (fun u => [(h0, .inr (6, [.ref b, .ref (u 0), .ref (u 1), .ref (u 2), .ref (u 3), .int 0, .int 0, .int 0, .int 0, .int 0, .long 0, .int (-2)])), ((u 0), .inl (k 0, 60, .inl (fun _ => 0))), ((u 1), .inl (k 0, 1080, .inl (fun _ => 0))), ((u 2), .inl (k 0, 960, .inl (fun _ => 0))), ((u 3), .inl (k 0, 60, .inl (fun _ => 0)))]) 4 2160 := by
  refine met_start (by decide) (Nat.le_of_ble_eq_true rfl) ?_
  intro p e s m below meth c C K hA hsz S ls hl
  generalize va_A [(h0, .inr (6, [.null, .null, .null, .null, .null, .int 0, .int 0, .int 0, .int 0, .int 0, .long 0, .int 0]))] sz = A at hA S ⊢
  have hx := C.1
  have hb := C.2.1
  have hl : lv_has ls 2 [(0, .ref h0), (1, .ref b)] := hl
  refine lv_aload_n hx hb d_Ru_init_0 rfl (lv_at hl 0 rfl) ?_
  refine r_objInit C wm_Ru_3 hl.1 d_Ru_init_1 (Nat.le_of_ble_eq_true rfl) (Nat.le_of_ble_eq_true rfl) ?_
  refine lv_aload_n hx hb d_Ru_init_4 rfl (lv_at hl 0 rfl) ?_
  refine lv_bipush (v := 60) hx hb d_Ru_init_5 (by decide) ?_
  refine r_newI C K S hA 60 (by decide) (by decide) (by decide) (Nat.le_of_ble_eq_true rfl) (Nat.le_of_ble_eq_true rfl) d_Ru_init_7 (fun q1 H S => ?_)
  have S : Sw G A s.heap _ _ [(h0, .inr (6, [.null, .null, .null, .null, .null, .int 0, .int 0, .int 0, .int 0, .int 0, .long 0, .int 0])), (q1, .inl (k 0, 60, .inl (fun _ => 0)))] := S
  refine r_putF C K S 0 rfl rfl clOk_Ru 1 (by decide) wf_Ru_9 rfl rfl (ty := .array .int) (v := .ref q1) (by decide +kernel) rfl rfl (Nat.le_of_ble_eq_true rfl) (fs' := [.null, .ref q1, .null, .null, .null, .int 0, .int 0, .int 0, .int 0, .int 0, .long 0, .int 0]) (ws' := [(h0, .inr (6, [.null, .ref q1, .null, .null, .null, .int 0, .int 0, .int 0, .int 0, .int 0, .long 0, .int 0])), (q1, .inl (k 0, 60, .inl (fun _ => 0)))]) rfl rfl d_Ru_init_9 (fun H locs S => ?_)
  refine lv_aload_n hx hb d_Ru_init_12 rfl (lv_at hl 0 rfl) ?_
  refine lv_sipush (v := 1080) hx hb d_Ru_init_13 (by decide) ?_
  refine r_newI C K S hA 1080 (by decide) (by decide) (by decide) (Nat.le_of_ble_eq_true rfl) (Nat.le_of_ble_eq_true rfl) d_Ru_init_16 (fun q2 H S => ?_)
  have S : Sw G A s.heap _ _ [(h0, .inr (6, [.null, .ref q1, .null, .null, .null, .int 0, .int 0, .int 0, .int 0, .int 0, .long 0, .int 0])), (q1, .inl (k 0, 60, .inl (fun _ => 0))), (q2, .inl (k 0, 1080, .inl (fun _ => 0)))] := S
  refine r_putF C K S 0 rfl rfl clOk_Ru 2 (by decide) wf_Ru_15 rfl rfl (ty := .array .int) (v := .ref q2) (by decide +kernel) rfl rfl (Nat.le_of_ble_eq_true rfl) (fs' := [.null, .ref q1, .ref q2, .null, .null, .int 0, .int 0, .int 0, .int 0, .int 0, .long 0, .int 0]) (ws' := [(h0, .inr (6, [.null, .ref q1, .ref q2, .null, .null, .int 0, .int 0, .int 0, .int 0, .int 0, .long 0, .int 0])), (q1, .inl (k 0, 60, .inl (fun _ => 0))), (q2, .inl (k 0, 1080, .inl (fun _ => 0)))]) rfl rfl d_Ru_init_18 (fun H locs S => ?_)
  refine lv_aload_n hx hb d_Ru_init_21 rfl (lv_at hl 0 rfl) ?_
  refine lv_sipush (v := 960) hx hb d_Ru_init_22 (by decide) ?_
  refine r_newI C K S hA 960 (by decide) (by decide) (by decide) (Nat.le_of_ble_eq_true rfl) (Nat.le_of_ble_eq_true rfl) d_Ru_init_25 (fun q3 H S => ?_)
  have S : Sw G A s.heap _ _ [(h0, .inr (6, [.null, .ref q1, .ref q2, .null, .null, .int 0, .int 0, .int 0, .int 0, .int 0, .long 0, .int 0])), (q1, .inl (k 0, 60, .inl (fun _ => 0))), (q2, .inl (k 0, 1080, .inl (fun _ => 0))), (q3, .inl (k 0, 960, .inl (fun _ => 0)))] := S
  refine r_putF C K S 0 rfl rfl clOk_Ru 3 (by decide) wf_Ru_18 rfl rfl (ty := .array .int) (v := .ref q3) (by decide +kernel) rfl rfl (Nat.le_of_ble_eq_true rfl) (fs' := [.null, .ref q1, .ref q2, .ref q3, .null, .int 0, .int 0, .int 0, .int 0, .int 0, .long 0, .int 0]) (ws' := [(h0, .inr (6, [.null, .ref q1, .ref q2, .ref q3, .null, .int 0, .int 0, .int 0, .int 0, .int 0, .long 0, .int 0])), (q1, .inl (k 0, 60, .inl (fun _ => 0))), (q2, .inl (k 0, 1080, .inl (fun _ => 0))), (q3, .inl (k 0, 960, .inl (fun _ => 0)))]) rfl rfl d_Ru_init_27 (fun H locs S => ?_)
  refine lv_aload_n hx hb d_Ru_init_30 rfl (lv_at hl 0 rfl) ?_
  refine lv_bipush (v := 60) hx hb d_Ru_init_31 (by decide) ?_
  refine r_newI C K S hA 60 (by decide) (by decide) (by decide) (Nat.le_of_ble_eq_true rfl) (Nat.le_of_ble_eq_true rfl) d_Ru_init_33 (fun q4 H S => ?_)
  have S : Sw G A s.heap _ _ [(h0, .inr (6, [.null, .ref q1, .ref q2, .ref q3, .null, .int 0, .int 0, .int 0, .int 0, .int 0, .long 0, .int 0])), (q1, .inl (k 0, 60, .inl (fun _ => 0))), (q2, .inl (k 0, 1080, .inl (fun _ => 0))), (q3, .inl (k 0, 960, .inl (fun _ => 0))), (q4, .inl (k 0, 60, .inl (fun _ => 0)))] := S
  refine r_putF C K S 0 rfl rfl clOk_Ru 4 (by decide) wf_Ru_21 rfl rfl (ty := .array .int) (v := .ref q4) (by decide +kernel) rfl rfl (Nat.le_of_ble_eq_true rfl) (fs' := [.null, .ref q1, .ref q2, .ref q3, .ref q4, .int 0, .int 0, .int 0, .int 0, .int 0, .long 0, .int 0]) (ws' := [(h0, .inr (6, [.null, .ref q1, .ref q2, .ref q3, .ref q4, .int 0, .int 0, .int 0, .int 0, .int 0, .long 0, .int 0])), (q1, .inl (k 0, 60, .inl (fun _ => 0))), (q2, .inl (k 0, 1080, .inl (fun _ => 0))), (q3, .inl (k 0, 960, .inl (fun _ => 0))), (q4, .inl (k 0, 60, .inl (fun _ => 0)))]) rfl rfl d_Ru_init_35 (fun H locs S => ?_)
  refine lv_aload_n hx hb d_Ru_init_38 rfl (lv_at hl 0 rfl) ?_
  refine lv_bipush (v := (-2)) hx hb d_Ru_init_39 (by decide) ?_
  refine r_put C K S 0 rfl rfl clOk_Ru 11 (by decide) wf_Ru_24 rfl (ty := .int) (v := .int (-2)) (by decide +kernel) rfl rfl (Nat.le_of_ble_eq_true rfl) (fs' := [.null, .ref q1, .ref q2, .ref q3, .ref q4, .int 0, .int 0, .int 0, .int 0, .int 0, .long 0, .int (-2)]) (ws' := [(h0, .inr (6, [.null, .ref q1, .ref q2, .ref q3, .ref q4, .int 0, .int 0, .int 0, .int 0, .int 0, .long 0, .int (-2)])), (q1, .inl (k 0, 60, .inl (fun _ => 0))), (q2, .inl (k 0, 1080, .inl (fun _ => 0))), (q3, .inl (k 0, 960, .inl (fun _ => 0))), (q4, .inl (k 0, 60, .inl (fun _ => 0)))]) rfl rfl d_Ru_init_41 (fun H locs S => ?_)
  refine lv_aload_n hx hb d_Ru_init_44 rfl (lv_at hl 0 rfl) ?_
  refine lv_aload_n hx hb d_Ru_init_45 rfl (lv_at hl 1 rfl) ?_
  refine r_putF C K S 0 rfl rfl clOk_Ru 0 (by decide) wf_Ru_28 rfl rfl (ty := .array (.object "PotentialBench$Body")) (v := .ref b) (by decide +kernel) rfl rfl (Nat.le_of_ble_eq_true rfl) (fs' := [.ref b, .ref q1, .ref q2, .ref q3, .ref q4, .int 0, .int 0, .int 0, .int 0, .int 0, .long 0, .int (-2)]) (ws' := [(h0, .inr (6, [.ref b, .ref q1, .ref q2, .ref q3, .ref q4, .int 0, .int 0, .int 0, .int 0, .int 0, .long 0, .int (-2)])), (q1, .inl (k 0, 60, .inl (fun _ => 0))), (q2, .inl (k 0, 1080, .inl (fun _ => 0))), (q3, .inl (k 0, 960, .inl (fun _ => 0))), (q4, .inl (k 0, 60, .inl (fun _ => 0)))]) rfl rfl d_Ru_init_46 (fun H locs S => ?_)
  exact r_vret C K (ul [q1, q2, q3, q4]) trivial (S.sub [0, 1, 2, 3, 4] (by decide) rfl) d_Ru_init_49 (Nat.le_of_ble_eq_true rfl) (Nat.le_of_ble_eq_true rfl)
theorem d_Ne_init_0 : decode c_Ne_init 0 = .ok (.aload_n 0, 1) := by decide +kernel
theorem d_Ne_init_1 : decode c_Ne_init 1 = .ok (.invokespecial 3, 3) := by decide +kernel
theorem d_Ne_init_4 : decode c_Ne_init 4 = .ok (.aload_n 0, 1) := by decide +kernel
theorem d_Ne_init_5 : decode c_Ne_init 5 = .ok (.iconst 4, 1) := by decide +kernel
theorem d_Ne_init_6 : decode c_Ne_init 6 = .ok (.newarray .int, 2) := by decide +kernel
theorem d_Ne_init_8 : decode c_Ne_init 8 = .ok (.putfield 9, 3) := by decide +kernel
theorem d_Ne_init_11 : decode c_Ne_init 11 = .ok (.aload_n 0, 1) := by decide +kernel
theorem d_Ne_init_12 : decode c_Ne_init 12 = .ok (.bipush 90, 2) := by decide +kernel
theorem d_Ne_init_14 : decode c_Ne_init 14 = .ok (.bipush 41, 2) := by decide +kernel
theorem d_Ne_init_16 : decode c_Ne_init 16 = .ok (.multianewarray 15 2, 4) := by decide +kernel
theorem d_Ne_init_20 : decode c_Ne_init 20 = .ok (.putfield 17, 3) := by decide +kernel
theorem d_Ne_init_23 : decode c_Ne_init 23 = .ok (.aload_n 0, 1) := by decide +kernel
theorem d_Ne_init_24 : decode c_Ne_init 24 = .ok (.bipush 41, 2) := by decide +kernel
theorem d_Ne_init_26 : decode c_Ne_init 26 = .ok (.newarray .int, 2) := by decide +kernel
theorem d_Ne_init_28 : decode c_Ne_init 28 = .ok (.putfield 20, 3) := by decide +kernel
theorem d_Ne_init_31 : decode c_Ne_init 31 = .ok (.aload_n 0, 1) := by decide +kernel
theorem d_Ne_init_32 : decode c_Ne_init 32 = .ok (.bipush 41, 2) := by decide +kernel
theorem d_Ne_init_34 : decode c_Ne_init 34 = .ok (.newarray .int, 2) := by decide +kernel
theorem d_Ne_init_36 : decode c_Ne_init 36 = .ok (.putfield 23, 3) := by decide +kernel
theorem d_Ne_init_39 : decode c_Ne_init 39 = .ok (.aload_n 0, 1) := by decide +kernel
theorem d_Ne_init_40 : decode c_Ne_init 40 = .ok (.sipush 306, 3) := by decide +kernel
theorem d_Ne_init_43 : decode c_Ne_init 43 = .ok (.bipush 41, 2) := by decide +kernel
theorem d_Ne_init_45 : decode c_Ne_init 45 = .ok (.multianewarray 15 2, 4) := by decide +kernel
theorem d_Ne_init_49 : decode c_Ne_init 49 = .ok (.putfield 26, 3) := by decide +kernel
theorem d_Ne_init_52 : decode c_Ne_init 52 = .ok (.aload_n 0, 1) := by decide +kernel
theorem d_Ne_init_53 : decode c_Ne_init 53 = .ok (.bipush 17, 2) := by decide +kernel
theorem d_Ne_init_55 : decode c_Ne_init 55 = .ok (.bipush 41, 2) := by decide +kernel
theorem d_Ne_init_57 : decode c_Ne_init 57 = .ok (.multianewarray 15 2, 4) := by decide +kernel
theorem d_Ne_init_61 : decode c_Ne_init 61 = .ok (.putfield 29, 3) := by decide +kernel
theorem d_Ne_init_64 : decode c_Ne_init 64 = .ok (.aload_n 0, 1) := by decide +kernel
theorem d_Ne_init_65 : decode c_Ne_init 65 = .ok (.bipush 17, 2) := by decide +kernel
theorem d_Ne_init_67 : decode c_Ne_init 67 = .ok (.bipush 41, 2) := by decide +kernel
theorem d_Ne_init_69 : decode c_Ne_init 69 = .ok (.multianewarray 15 2, 4) := by decide +kernel
theorem d_Ne_init_73 : decode c_Ne_init 73 = .ok (.putfield 32, 3) := by decide +kernel
theorem d_Ne_init_76 : decode c_Ne_init 76 = .ok (.aload_n 0, 1) := by decide +kernel
theorem d_Ne_init_77 : decode c_Ne_init 77 = .ok (.aload_n 1, 1) := by decide +kernel
theorem d_Ne_init_78 : decode c_Ne_init 78 = .ok (.putfield 35, 3) := by decide +kernel
theorem d_Ne_init_81 : decode c_Ne_init 81 = .ok (.aload_n 0, 1) := by decide +kernel
theorem d_Ne_init_82 : decode c_Ne_init 82 = .ok (.aload_n 1, 1) := by decide +kernel
theorem d_Ne_init_83 : decode c_Ne_init 83 = .ok (.iconst 0, 1) := by decide +kernel
theorem d_Ne_init_84 : decode c_Ne_init 84 = .ok (.aaload, 1) := by decide +kernel
theorem d_Ne_init_85 : decode c_Ne_init 85 = .ok (.putfield 39, 3) := by decide +kernel
theorem d_Ne_init_88 : decode c_Ne_init 88 = .ok (.return_, 1) := by decide +kernel
set_option maxRecDepth 100000 in
set_option maxHeartbeats 4000000 in
/-- Needs(bodies); the rows of its tables are forgotten -/
theorem k_Ne_init (l : Launch) (G : va_G) (k : Nat → ClassId) (h0 sz : Nat) (b b0 : Nat) (f : Nat → Option Nat) (hf : f 0 = some b0) : CV l y_Ne_init c_Ne_init 2 { frames := 1, cells := 437, slots := 18146, locals := 20 } [.ref h0, .ref b] G k sz [(h0, .inr (7, [.null, .null, .null, .null, .null, .null, .null, .null, .null, .int 0, .int 0, .int 0])), (b, .inl (k 3, 4, .inr (.inr (.inr (.inr f)))))] (fun _ : Nat → Nat => True) (fun u => [(h0, .inr (7, [.ref b, .ref (u 0), .ref (u 1), .ref (u 2), .ref (u 3), .ref (u 4), .ref (u 5), .ref (u 6), .ref b0, .int 0, .int 0, .int 0])), ((u 0), .inl (k 0, 4, .inl (fun _ => 0))), ((u 1), .inl (k 5, 90, .inr (.inr (.inr (.inr (fun j => some ((u 1) + 1 + j))))))), ((u 2), .inl (k 0, 41, .inl (fun _ => 0))), ((u 3), .inl (k 0, 41, .inl (fun _ => 0))), ((u 4), .inl (k 5, 306, .inr (.inr (.inr (.inr (fun j => some ((u 4) + 1 + j))))))), ((u 5), .inl (k 5, 17, .inr (.inr (.inr (.inr (fun j => some ((u 5) + 1 + j))))))), ((u 6), .inl (k 5, 17, .inr (.inr (.inr (.inr (fun j => some ((u 6) + 1 + j))))))), (b, .inl (k 3, 4, .inr (.inr (.inr (.inr f)))))]) 437 18146 := by
  refine met_start (by decide) (Nat.le_of_ble_eq_true rfl) ?_
  intro p e s m below meth c C K hA hsz S ls hl
  generalize va_A [(h0, .inr (7, [.null, .null, .null, .null, .null, .null, .null, .null, .null, .int 0, .int 0, .int 0])), (b, .inl (k 3, 4, .inr (.inr (.inr (.inr f)))))] sz = A at hA S ⊢
  have hx := C.1
  have hb := C.2.1
  have hl : lv_has ls 2 [(0, .ref h0), (1, .ref b)] := hl
  refine lv_aload_n hx hb d_Ne_init_0 rfl (lv_at hl 0 rfl) ?_
  refine r_objInit C wm_Ne_3 hl.1 d_Ne_init_1 (Nat.le_of_ble_eq_true rfl) (Nat.le_of_ble_eq_true rfl) ?_
  refine lv_aload_n hx hb d_Ne_init_4 rfl (lv_at hl 0 rfl) ?_
  refine lv_iconst (v := 4) hx hb d_Ne_init_5 (by decide) ?_
  refine r_newI C K S hA 4 (by decide) (by decide) (by decide) (Nat.le_of_ble_eq_true rfl) (Nat.le_of_ble_eq_true rfl) d_Ne_init_6 (fun q1 H S => ?_)
  have S : Sw G A s.heap _ _ [(h0, .inr (7, [.null, .null, .null, .null, .null, .null, .null, .null, .null, .int 0, .int 0, .int 0])), (b, .inl (k 3, 4, .inr (.inr (.inr (.inr f))))), (q1, .inl (k 0, 4, .inl (fun _ => 0)))] := S
  refine r_putF C K S 0 rfl rfl clOk_Ne 1 (by decide) wf_Ne_9 rfl rfl (ty := .array .int) (v := .ref q1) (by decide +kernel) rfl rfl (Nat.le_of_ble_eq_true rfl) (fs' := [.null, .ref q1, .null, .null, .null, .null, .null, .null, .null, .int 0, .int 0, .int 0]) (ws' := [(h0, .inr (7, [.null, .ref q1, .null, .null, .null, .null, .null, .null, .null, .int 0, .int 0, .int 0])), (b, .inl (k 3, 4, .inr (.inr (.inr (.inr f))))), (q1, .inl (k 0, 4, .inl (fun _ => 0)))]) rfl rfl d_Ne_init_8 (fun H locs S => ?_)
  refine lv_aload_n hx hb d_Ne_init_11 rfl (lv_at hl 0 rfl) ?_
  refine lv_bipush (v := 90) hx hb d_Ne_init_12 (by decide) ?_
  refine lv_bipush (v := 41) hx hb d_Ne_init_14 (by decide) ?_
  refine r_multi C K S hA wl_Ne_15 90 41 (by decide) (by decide) (by decide) (by decide) (by decide) (by decide) (Nat.le_of_ble_eq_true rfl) (Nat.le_of_ble_eq_true rfl) d_Ne_init_16 (fun q2 H S => ?_)
  have S : Sw G A s.heap _ _ [(h0, .inr (7, [.null, .ref q1, .null, .null, .null, .null, .null, .null, .null, .int 0, .int 0, .int 0])), (b, .inl (k 3, 4, .inr (.inr (.inr (.inr f))))), (q1, .inl (k 0, 4, .inl (fun _ => 0))), (q2, .inl (k 5, 90, .inr (.inr (.inr (.inr (fun j => some (q2 + 1 + j)))))))] := S.sub [0, 1, 2, 3] (by decide) rfl
  refine r_putF C K S 0 rfl rfl clOk_Ne 2 (by decide) wf_Ne_17 rfl rfl (ty := .array (.array .int)) (v := .ref q2) (by decide +kernel) rfl rfl (Nat.le_of_ble_eq_true rfl) (fs' := [.null, .ref q1, .ref q2, .null, .null, .null, .null, .null, .null, .int 0, .int 0, .int 0]) (ws' := [(h0, .inr (7, [.null, .ref q1, .ref q2, .null, .null, .null, .null, .null, .null, .int 0, .int 0, .int 0])), (b, .inl (k 3, 4, .inr (.inr (.inr (.inr f))))), (q1, .inl (k 0, 4, .inl (fun _ => 0))), (q2, .inl (k 5, 90, .inr (.inr (.inr (.inr (fun j => some (q2 + 1 + j)))))))]) rfl rfl d_Ne_init_20 (fun H locs S => ?_)
  refine lv_aload_n hx hb d_Ne_init_23 rfl (lv_at hl 0 rfl) ?_
  refine lv_bipush (v := 41) hx hb d_Ne_init_24 (by decide) ?_
  refine r_newI C K S hA 41 (by decide) (by decide) (by decide) (Nat.le_of_ble_eq_true rfl) (Nat.le_of_ble_eq_true rfl) d_Ne_init_26 (fun q3 H S => ?_)
  have S : Sw G A s.heap _ _ [(h0, .inr (7, [.null, .ref q1, .ref q2, .null, .null, .null, .null, .null, .null, .int 0, .int 0, .int 0])), (b, .inl (k 3, 4, .inr (.inr (.inr (.inr f))))), (q1, .inl (k 0, 4, .inl (fun _ => 0))), (q2, .inl (k 5, 90, .inr (.inr (.inr (.inr (fun j => some (q2 + 1 + j))))))), (q3, .inl (k 0, 41, .inl (fun _ => 0)))] := S
  refine r_putF C K S 0 rfl rfl clOk_Ne 3 (by decide) wf_Ne_20 rfl rfl (ty := .array .int) (v := .ref q3) (by decide +kernel) rfl rfl (Nat.le_of_ble_eq_true rfl) (fs' := [.null, .ref q1, .ref q2, .ref q3, .null, .null, .null, .null, .null, .int 0, .int 0, .int 0]) (ws' := [(h0, .inr (7, [.null, .ref q1, .ref q2, .ref q3, .null, .null, .null, .null, .null, .int 0, .int 0, .int 0])), (b, .inl (k 3, 4, .inr (.inr (.inr (.inr f))))), (q1, .inl (k 0, 4, .inl (fun _ => 0))), (q2, .inl (k 5, 90, .inr (.inr (.inr (.inr (fun j => some (q2 + 1 + j))))))), (q3, .inl (k 0, 41, .inl (fun _ => 0)))]) rfl rfl d_Ne_init_28 (fun H locs S => ?_)
  refine lv_aload_n hx hb d_Ne_init_31 rfl (lv_at hl 0 rfl) ?_
  refine lv_bipush (v := 41) hx hb d_Ne_init_32 (by decide) ?_
  refine r_newI C K S hA 41 (by decide) (by decide) (by decide) (Nat.le_of_ble_eq_true rfl) (Nat.le_of_ble_eq_true rfl) d_Ne_init_34 (fun q4 H S => ?_)
  have S : Sw G A s.heap _ _ [(h0, .inr (7, [.null, .ref q1, .ref q2, .ref q3, .null, .null, .null, .null, .null, .int 0, .int 0, .int 0])), (b, .inl (k 3, 4, .inr (.inr (.inr (.inr f))))), (q1, .inl (k 0, 4, .inl (fun _ => 0))), (q2, .inl (k 5, 90, .inr (.inr (.inr (.inr (fun j => some (q2 + 1 + j))))))), (q3, .inl (k 0, 41, .inl (fun _ => 0))), (q4, .inl (k 0, 41, .inl (fun _ => 0)))] := S
  refine r_putF C K S 0 rfl rfl clOk_Ne 4 (by decide) wf_Ne_23 rfl rfl (ty := .array .int) (v := .ref q4) (by decide +kernel) rfl rfl (Nat.le_of_ble_eq_true rfl) (fs' := [.null, .ref q1, .ref q2, .ref q3, .ref q4, .null, .null, .null, .null, .int 0, .int 0, .int 0]) (ws' := [(h0, .inr (7, [.null, .ref q1, .ref q2, .ref q3, .ref q4, .null, .null, .null, .null, .int 0, .int 0, .int 0])), (b, .inl (k 3, 4, .inr (.inr (.inr (.inr f))))), (q1, .inl (k 0, 4, .inl (fun _ => 0))), (q2, .inl (k 5, 90, .inr (.inr (.inr (.inr (fun j => some (q2 + 1 + j))))))), (q3, .inl (k 0, 41, .inl (fun _ => 0))), (q4, .inl (k 0, 41, .inl (fun _ => 0)))]) rfl rfl d_Ne_init_36 (fun H locs S => ?_)
  refine lv_aload_n hx hb d_Ne_init_39 rfl (lv_at hl 0 rfl) ?_
  refine lv_sipush (v := 306) hx hb d_Ne_init_40 (by decide) ?_
  refine lv_bipush (v := 41) hx hb d_Ne_init_43 (by decide) ?_
  refine r_multi C K S hA wl_Ne_15 306 41 (by decide) (by decide) (by decide) (by decide) (by decide) (by decide) (Nat.le_of_ble_eq_true rfl) (Nat.le_of_ble_eq_true rfl) d_Ne_init_45 (fun q5 H S => ?_)
  have S : Sw G A s.heap _ _ [(h0, .inr (7, [.null, .ref q1, .ref q2, .ref q3, .ref q4, .null, .null, .null, .null, .int 0, .int 0, .int 0])), (b, .inl (k 3, 4, .inr (.inr (.inr (.inr f))))), (q1, .inl (k 0, 4, .inl (fun _ => 0))), (q2, .inl (k 5, 90, .inr (.inr (.inr (.inr (fun j => some (q2 + 1 + j))))))), (q3, .inl (k 0, 41, .inl (fun _ => 0))), (q4, .inl (k 0, 41, .inl (fun _ => 0))), (q5, .inl (k 5, 306, .inr (.inr (.inr (.inr (fun j => some (q5 + 1 + j)))))))] := S.sub [0, 1, 2, 3, 4, 5, 6] (by decide) rfl
  refine r_putF C K S 0 rfl rfl clOk_Ne 5 (by decide) wf_Ne_26 rfl rfl (ty := .array (.array .int)) (v := .ref q5) (by decide +kernel) rfl rfl (Nat.le_of_ble_eq_true rfl) (fs' := [.null, .ref q1, .ref q2, .ref q3, .ref q4, .ref q5, .null, .null, .null, .int 0, .int 0, .int 0]) (ws' := [(h0, .inr (7, [.null, .ref q1, .ref q2, .ref q3, .ref q4, .ref q5, .null, .null, .null, .int 0, .int 0, .int 0])), (b, .inl (k 3, 4, .inr (.inr (.inr (.inr f))))), (q1, .inl (k 0, 4, .inl (fun _ => 0))), (q2, .inl (k 5, 90, .inr (.inr (.inr (.inr (fun j => some (q2 + 1 + j))))))), (q3, .inl (k 0, 41, .inl (fun _ => 0))), (q4, .inl (k 0, 41, .inl (fun _ => 0))), (q5, .inl (k 5, 306, .inr (.inr (.inr (.inr (fun j => some (q5 + 1 + j)))))))]) rfl rfl d_Ne_init_49 (fun H locs S => ?_)
  refine lv_aload_n hx hb d_Ne_init_52 rfl (lv_at hl 0 rfl) ?_
  refine lv_bipush (v := 17) hx hb d_Ne_init_53 (by decide) ?_
  refine lv_bipush (v := 41) hx hb d_Ne_init_55 (by decide) ?_
  refine r_multi C K S hA wl_Ne_15 17 41 (by decide) (by decide) (by decide) (by decide) (by decide) (by decide) (Nat.le_of_ble_eq_true rfl) (Nat.le_of_ble_eq_true rfl) d_Ne_init_57 (fun q6 H S => ?_)
  have S : Sw G A s.heap _ _ [(h0, .inr (7, [.null, .ref q1, .ref q2, .ref q3, .ref q4, .ref q5, .null, .null, .null, .int 0, .int 0, .int 0])), (b, .inl (k 3, 4, .inr (.inr (.inr (.inr f))))), (q1, .inl (k 0, 4, .inl (fun _ => 0))), (q2, .inl (k 5, 90, .inr (.inr (.inr (.inr (fun j => some (q2 + 1 + j))))))), (q3, .inl (k 0, 41, .inl (fun _ => 0))), (q4, .inl (k 0, 41, .inl (fun _ => 0))), (q5, .inl (k 5, 306, .inr (.inr (.inr (.inr (fun j => some (q5 + 1 + j))))))), (q6, .inl (k 5, 17, .inr (.inr (.inr (.inr (fun j => some (q6 + 1 + j)))))))] := S.sub [0, 1, 2, 3, 4, 5, 6, 7] (by decide) rfl
  refine r_putF C K S 0 rfl rfl clOk_Ne 6 (by decide) wf_Ne_29 rfl rfl (ty := .array (.array .int)) (v := .ref q6) (by decide +kernel) rfl rfl (Nat.le_of_ble_eq_true rfl) (fs' := [.null, .ref q1, .ref q2, .ref q3, .ref q4, .ref q5, .ref q6, .null, .null, .int 0, .int 0, .int 0]) (ws' := [(h0, .inr (7, [.null, .ref q1, .ref q2, .ref q3, .ref q4, .ref q5, .ref q6, .null, .null, .int 0, .int 0, .int 0])), (b, .inl (k 3, 4, .inr (.inr (.inr (.inr f))))), (q1, .inl (k 0, 4, .inl (fun _ => 0))), (q2, .inl (k 5, 90, .inr (.inr (.inr (.inr (fun j => some (q2 + 1 + j))))))), (q3, .inl (k 0, 41, .inl (fun _ => 0))), (q4, .inl (k 0, 41, .inl (fun _ => 0))), (q5, .inl (k 5, 306, .inr (.inr (.inr (.inr (fun j => some (q5 + 1 + j))))))), (q6, .inl (k 5, 17, .inr (.inr (.inr (.inr (fun j => some (q6 + 1 + j)))))))]) rfl rfl d_Ne_init_61 (fun H locs S => ?_)
  refine lv_aload_n hx hb d_Ne_init_64 rfl (lv_at hl 0 rfl) ?_
  refine lv_bipush (v := 17) hx hb d_Ne_init_65 (by decide) ?_
  refine lv_bipush (v := 41) hx hb d_Ne_init_67 (by decide) ?_
  refine r_multi C K S hA wl_Ne_15 17 41 (by decide) (by decide) (by decide) (by decide) (by decide) (by decide) (Nat.le_of_ble_eq_true rfl) (Nat.le_of_ble_eq_true rfl) d_Ne_init_69 (fun q7 H S => ?_)
  have S : Sw G A s.heap _ _ [(h0, .inr (7, [.null, .ref q1, .ref q2, .ref q3, .ref q4, .ref q5, .ref q6, .null, .null, .int 0, .int 0, .int 0])), (b, .inl (k 3, 4, .inr (.inr (.inr (.inr f))))), (q1, .inl (k 0, 4, .inl (fun _ => 0))), (q2, .inl (k 5, 90, .inr (.inr (.inr (.inr (fun j => some (q2 + 1 + j))))))), (q3, .inl (k 0, 41, .inl (fun _ => 0))), (q4, .inl (k 0, 41, .inl (fun _ => 0))), (q5, .inl (k 5, 306, .inr (.inr (.inr (.inr (fun j => some (q5 + 1 + j))))))), (q6, .inl (k 5, 17, .inr (.inr (.inr (.inr (fun j => some (q6 + 1 + j))))))), (q7, .inl (k 5, 17, .inr (.inr (.inr (.inr (fun j => some (q7 + 1 + j)))))))] := S.sub [0, 1, 2, 3, 4, 5, 6, 7, 8] (by decide) rfl
  refine r_putF C K S 0 rfl rfl clOk_Ne 7 (by decide) wf_Ne_32 rfl rfl (ty := .array (.array .int)) (v := .ref q7) (by decide +kernel) rfl rfl (Nat.le_of_ble_eq_true rfl) (fs' := [.null, .ref q1, .ref q2, .ref q3, .ref q4, .ref q5, .ref q6, .ref q7, .null, .int 0, .int 0, .int 0]) (ws' := [(h0, .inr (7, [.null, .ref q1, .ref q2, .ref q3, .ref q4, .ref q5, .ref q6, .ref q7, .null, .int 0, .int 0, .int 0])), (b, .inl (k 3, 4, .inr (.inr (.inr (.inr f))))), (q1, .inl (k 0, 4, .inl (fun _ => 0))), (q2, .inl (k 5, 90, .inr (.inr (.inr (.inr (fun j => some (q2 + 1 + j))))))), (q3, .inl (k 0, 41, .inl (fun _ => 0))), (q4, .inl (k 0, 41, .inl (fun _ => 0))), (q5, .inl (k 5, 306, .inr (.inr (.inr (.inr (fun j => some (q5 + 1 + j))))))), (q6, .inl (k 5, 17, .inr (.inr (.inr (.inr (fun j => some (q6 + 1 + j))))))), (q7, .inl (k 5, 17, .inr (.inr (.inr (.inr (fun j => some (q7 + 1 + j)))))))]) rfl rfl d_Ne_init_73 (fun H locs S => ?_)
  refine lv_aload_n hx hb d_Ne_init_76 rfl (lv_at hl 0 rfl) ?_
  refine lv_aload_n hx hb d_Ne_init_77 rfl (lv_at hl 1 rfl) ?_
  refine r_putF C K S 0 rfl rfl clOk_Ne 0 (by decide) wf_Ne_35 rfl rfl (ty := .array (.object "PotentialBench$Body")) (v := .ref b) (by decide +kernel) rfl rfl (Nat.le_of_ble_eq_true rfl) (fs' := [.ref b, .ref q1, .ref q2, .ref q3, .ref q4, .ref q5, .ref q6, .ref q7, .null, .int 0, .int 0, .int 0]) (ws' := [(h0, .inr (7, [.ref b, .ref q1, .ref q2, .ref q3, .ref q4, .ref q5, .ref q6, .ref q7, .null, .int 0, .int 0, .int 0])), (b, .inl (k 3, 4, .inr (.inr (.inr (.inr f))))), (q1, .inl (k 0, 4, .inl (fun _ => 0))), (q2, .inl (k 5, 90, .inr (.inr (.inr (.inr (fun j => some (q2 + 1 + j))))))), (q3, .inl (k 0, 41, .inl (fun _ => 0))), (q4, .inl (k 0, 41, .inl (fun _ => 0))), (q5, .inl (k 5, 306, .inr (.inr (.inr (.inr (fun j => some (q5 + 1 + j))))))), (q6, .inl (k 5, 17, .inr (.inr (.inr (.inr (fun j => some (q6 + 1 + j))))))), (q7, .inl (k 5, 17, .inr (.inr (.inr (.inr (fun j => some (q7 + 1 + j)))))))]) rfl rfl d_Ne_init_78 (fun H locs S => ?_)
  refine lv_aload_n hx hb d_Ne_init_81 rfl (lv_at hl 0 rfl) ?_
  refine lv_aload_n hx hb d_Ne_init_82 rfl (lv_at hl 1 rfl) ?_
  refine lv_iconst (v := 0) hx hb d_Ne_init_83 (by decide) ?_
  refine r_aald C K S 1 3 rfl rfl (i := 0) (by unfold vp_in; decide) (b := b0) (by rw [show (0 : Int32).toNatClampNeg = 0 from by decide]; exact hf) d_Ne_init_84 ?_
  refine r_put C K S 0 rfl rfl clOk_Ne 8 (by decide) wf_Ne_39 rfl (ty := .object "PotentialBench$Body") (v := .ref b0) (by decide +kernel) rfl rfl (Nat.le_of_ble_eq_true rfl) (fs' := [.ref b, .ref q1, .ref q2, .ref q3, .ref q4, .ref q5, .ref q6, .ref q7, .ref b0, .int 0, .int 0, .int 0]) (ws' := [(h0, .inr (7, [.ref b, .ref q1, .ref q2, .ref q3, .ref q4, .ref q5, .ref q6, .ref q7, .ref b0, .int 0, .int 0, .int 0])), (b, .inl (k 3, 4, .inr (.inr (.inr (.inr f))))), (q1, .inl (k 0, 4, .inl (fun _ => 0))), (q2, .inl (k 5, 90, .inr (.inr (.inr (.inr (fun j => some (q2 + 1 + j))))))), (q3, .inl (k 0, 41, .inl (fun _ => 0))), (q4, .inl (k 0, 41, .inl (fun _ => 0))), (q5, .inl (k 5, 306, .inr (.inr (.inr (.inr (fun j => some (q5 + 1 + j))))))), (q6, .inl (k 5, 17, .inr (.inr (.inr (.inr (fun j => some (q6 + 1 + j))))))), (q7, .inl (k 5, 17, .inr (.inr (.inr (.inr (fun j => some (q7 + 1 + j)))))))]) rfl rfl d_Ne_init_85 (fun H locs S => ?_)
  exact r_vret C K (ul [q1, q2, q3, q4, q5, q6, q7]) trivial (S.sub [0, 2, 3, 4, 5, 6, 7, 8, 1] (by decide) rfl) d_Ne_init_88 (Nat.le_of_ble_eq_true rfl) (Nat.le_of_ble_eq_true rfl)
end
section
theorem d_So_init_0 : decode c_So_init 0 = .ok (.aload_n 0, 1) := by decide +kernel
theorem d_So_init_1 : decode c_So_init 1 = .ok (.invokespecial 3, 3) := by decide +kernel
theorem d_So_init_4 : decode c_So_init 4 = .ok (.aload_n 0, 1) := by decide +kernel
theorem d_So_init_5 : decode c_So_init 5 = .ok (.sipush 3731, 3) := by decide +kernel
theorem d_So_init_8 : decode c_So_init 8 = .ok (.anewarray 9, 3) := by decide +kernel
theorem d_So_init_11 : decode c_So_init 11 = .ok (.putfield 11, 3) := by decide +kernel
theorem d_So_init_14 : decode c_So_init 14 = .ok (.aload_n 0, 1) := by decide +kernel
theorem d_So_init_15 : decode c_So_init 15 = .ok (.bipush 40, 2) := by decide +kernel
theorem d_So_init_17 : decode c_So_init 17 = .ok (.newarray .int, 2) := by decide +kernel
theorem d_So_init_19 : decode c_So_init 19 = .ok (.putfield 17, 3) := by decide +kernel
theorem d_So_init_22 : decode c_So_init 22 = .ok (.aload_n 0, 1) := by decide +kernel
theorem d_So_init_23 : decode c_So_init 23 = .ok (.bipush 40, 2) := by decide +kernel
theorem d_So_init_25 : decode c_So_init 25 = .ok (.newarray .int, 2) := by decide +kernel
theorem d_So_init_27 : decode c_So_init 27 = .ok (.putfield 21, 3) := by decide +kernel
theorem d_So_init_30 : decode c_So_init 30 = .ok (.aload_n 0, 1) := by decide +kernel
theorem d_So_init_31 : decode c_So_init 31 = .ok (.bipush 91, 2) := by decide +kernel
theorem d_So_init_33 : decode c_So_init 33 = .ok (.newarray .int, 2) := by decide +kernel
theorem d_So_init_35 : decode c_So_init 35 = .ok (.putfield 24, 3) := by decide +kernel
theorem d_So_init_38 : decode c_So_init 38 = .ok (.aload_n 0, 1) := by decide +kernel
theorem d_So_init_39 : decode c_So_init 39 = .ok (.bipush 40, 2) := by decide +kernel
theorem d_So_init_41 : decode c_So_init 41 = .ok (.newarray .int, 2) := by decide +kernel
theorem d_So_init_43 : decode c_So_init 43 = .ok (.putfield 27, 3) := by decide +kernel
theorem d_So_init_46 : decode c_So_init 46 = .ok (.aload_n 0, 1) := by decide +kernel
theorem d_So_init_47 : decode c_So_init 47 = .ok (.new 9, 3) := by decide +kernel
theorem d_So_init_50 : decode c_So_init 50 = .ok (.dup, 1) := by decide +kernel
theorem d_So_init_51 : decode c_So_init 51 = .ok (.invokespecial 30, 3) := by decide +kernel
theorem d_So_init_54 : decode c_So_init 54 = .ok (.putfield 31, 3) := by decide +kernel
theorem d_So_init_57 : decode c_So_init 57 = .ok (.aload_n 0, 1) := by decide +kernel
theorem d_So_init_58 : decode c_So_init 58 = .ok (.new 9, 3) := by decide +kernel
theorem d_So_init_61 : decode c_So_init 61 = .ok (.dup, 1) := by decide +kernel
theorem d_So_init_62 : decode c_So_init 62 = .ok (.invokespecial 30, 3) := by decide +kernel
theorem d_So_init_65 : decode c_So_init 65 = .ok (.putfield 35, 3) := by decide +kernel
theorem d_So_init_68 : decode c_So_init 68 = .ok (.aload_n 0, 1) := by decide +kernel
theorem d_So_init_69 : decode c_So_init 69 = .ok (.new 9, 3) := by decide +kernel
theorem d_So_init_72 : decode c_So_init 72 = .ok (.dup, 1) := by decide +kernel
theorem d_So_init_73 : decode c_So_init 73 = .ok (.invokespecial 30, 3) := by decide +kernel
theorem d_So_init_76 : decode c_So_init 76 = .ok (.putfield 38, 3) := by decide +kernel
theorem d_So_init_79 : decode c_So_init 79 = .ok (.aload_n 0, 1) := by decide +kernel
theorem d_So_init_80 : decode c_So_init 80 = .ok (.new 9, 3) := by decide +kernel
theorem d_So_init_83 : decode c_So_init 83 = .ok (.dup, 1) := by decide +kernel
theorem d_So_init_84 : decode c_So_init 84 = .ok (.invokespecial 30, 3) := by decide +kernel
theorem d_So_init_87 : decode c_So_init 87 = .ok (.putfield 41, 3) := by decide +kernel
theorem d_So_init_90 : decode c_So_init 90 = .ok (.aload_n 0, 1) := by decide +kernel
theorem d_So_init_91 : decode c_So_init 91 = .ok (.new 9, 3) := by decide +kernel
theorem d_So_init_94 : decode c_So_init 94 = .ok (.dup, 1) := by decide +kernel
theorem d_So_init_95 : decode c_So_init 95 = .ok (.invokespecial 30, 3) := by decide +kernel
theorem d_So_init_98 : decode c_So_init 98 = .ok (.putfield 44, 3) := by decide +kernel
theorem d_So_init_101 : decode c_So_init 101 = .ok (.return_, 1) := by decide +kernel
set_option maxRecDepth 100000 in
set_option maxHeartbeats 4000000 in
/-- Solver(): no number yet in its table -/
theorem k_So_init (l : Launch) (G : va_G) (k : Nat → ClassId) (h0 sz : Nat) : CV l y_So_init c_So_init 1 { frames := 2, cells := 15, slots := 3972, locals := 40 } [.ref h0] G k sz [(h0, .inr (1, [.null, .null, .null, .null, .null, .null, .null, .null, .null, .null, .int 0, .int 0, .int 0, .int 0]))] (fun _ : Nat → Nat => True) (fun u => [(h0, .inr (1, [.ref (u 0), .ref (u 1), .ref (u 2), .ref (u 3), .ref (u 4), .ref (u 5), .ref (u 7), .ref (u 9), .ref (u 11), .ref (u 13), .int 0, .int 0, .int 0, .int 0])), ((u 0), .inl (k 4, 3731, .inr (.inr (.inr (.inr (fun _ => none)))))), ((u 1), .inl (k 0, 40, .inl (fun _ => 0))), ((u 2), .inl (k 0, 40, .inl (fun _ => 0))), ((u 3), .inl (k 0, 91, .inl (fun _ => 0))), ((u 4), .inl (k 0, 40, .inl (fun _ => 0))), ((u 5), .inr (2, [.ref (u 6), .int 0, .int 0])), ((u 6), .inl (k 0, 3, .inl (fun _ => 0))), ((u 7), .inr (2, [.ref (u 8), .int 0, .int 0])), ((u 8), .inl (k 0, 3, .inl (fun _ => 0))), ((u 9), .inr (2, [.ref (u 10), .int 0, .int 0])), ((u 10), .inl (k 0, 3, .inl (fun _ => 0))), ((u 11), .inr (2, [.ref (u 12), .int 0, .int 0])), ((u 12), .inl (k 0, 3, .inl (fun _ => 0))), ((u 13), .inr (2, [.ref (u 14), .int 0, .int 0])), ((u 14), .inl (k 0, 3, .inl (fun _ => 0)))]) 15 3972 := by
  refine met_start (by decide) (Nat.le_of_ble_eq_true rfl) ?_
  intro p e s m below meth c C K hA hsz S ls hl
  generalize va_A [(h0, .inr (1, [.null, .null, .null, .null, .null, .null, .null, .null, .null, .null, .int 0, .int 0, .int 0, .int 0]))] sz = A at hA S ⊢
  have hx := C.1
  have hb := C.2.1
  have hl : lv_has ls 1 [(0, .ref h0)] := hl
  refine lv_aload_n hx hb d_So_init_0 rfl (lv_at hl 0 rfl) ?_
  refine r_objInit C wm_So_3 hl.1 d_So_init_1 (Nat.le_of_ble_eq_true rfl) (Nat.le_of_ble_eq_true rfl) ?_
  refine lv_aload_n hx hb d_So_init_4 rfl (lv_at hl 0 rfl) ?_
  refine lv_sipush (v := 3731) hx hb d_So_init_5 (by decide) ?_
  refine r_newW C K S hA wl_So_9 3731 (by decide) (by decide) (by decide) (Nat.le_of_ble_eq_true rfl) (Nat.le_of_ble_eq_true rfl) d_So_init_8 (fun q1 H S => ?_)
  have S : Sw G A s.heap _ _ [(h0, .inr (1, [.null, .null, .null, .null, .null, .null, .null, .null, .null, .null, .int 0, .int 0, .int 0, .int 0])), (q1, .inl (k 4, 3731, .inr (.inr (.inr (.inr (fun _ => none))))))] := S
  refine r_putF C K S 0 rfl rfl clOk_So 0 (by decide) wf_So_11 rfl rfl (ty := .array (.object "PotentialBench$Whole")) (v := .ref q1) (by decide +kernel) rfl rfl (Nat.le_of_ble_eq_true rfl) (fs' := [.ref q1, .null, .null, .null, .null, .null, .null, .null, .null, .null, .int 0, .int 0, .int 0, .int 0]) (ws' := [(h0, .inr (1, [.ref q1, .null, .null, .null, .null, .null, .null, .null, .null, .null, .int 0, .int 0, .int 0, .int 0])), (q1, .inl (k 4, 3731, .inr (.inr (.inr (.inr (fun _ => none))))))]) rfl rfl d_So_init_11 (fun H locs S => ?_)
  refine lv_aload_n hx hb d_So_init_14 rfl (lv_at hl 0 rfl) ?_
  refine lv_bipush (v := 40) hx hb d_So_init_15 (by decide) ?_
  refine r_newI C K S hA 40 (by decide) (by decide) (by decide) (Nat.le_of_ble_eq_true rfl) (Nat.le_of_ble_eq_true rfl) d_So_init_17 (fun q2 H S => ?_)
  have S : Sw G A s.heap _ _ [(h0, .inr (1, [.ref q1, .null, .null, .null, .null, .null, .null, .null, .null, .null, .int 0, .int 0, .int 0, .int 0])), (q1, .inl (k 4, 3731, .inr (.inr (.inr (.inr (fun _ => none)))))), (q2, .inl (k 0, 40, .inl (fun _ => 0)))] := S
  refine r_putF C K S 0 rfl rfl clOk_So 1 (by decide) wf_So_17 rfl rfl (ty := .array .int) (v := .ref q2) (by decide +kernel) rfl rfl (Nat.le_of_ble_eq_true rfl) (fs' := [.ref q1, .ref q2, .null, .null, .null, .null, .null, .null, .null, .null, .int 0, .int 0, .int 0, .int 0]) (ws' := [(h0, .inr (1, [.ref q1, .ref q2, .null, .null, .null, .null, .null, .null, .null, .null, .int 0, .int 0, .int 0, .int 0])), (q1, .inl (k 4, 3731, .inr (.inr (.inr (.inr (fun _ => none)))))), (q2, .inl (k 0, 40, .inl (fun _ => 0)))]) rfl rfl d_So_init_19 (fun H locs S => ?_)
  refine lv_aload_n hx hb d_So_init_22 rfl (lv_at hl 0 rfl) ?_
  refine lv_bipush (v := 40) hx hb d_So_init_23 (by decide) ?_
  refine r_newI C K S hA 40 (by decide) (by decide) (by decide) (Nat.le_of_ble_eq_true rfl) (Nat.le_of_ble_eq_true rfl) d_So_init_25 (fun q3 H S => ?_)
  have S : Sw G A s.heap _ _ [(h0, .inr (1, [.ref q1, .ref q2, .null, .null, .null, .null, .null, .null, .null, .null, .int 0, .int 0, .int 0, .int 0])), (q1, .inl (k 4, 3731, .inr (.inr (.inr (.inr (fun _ => none)))))), (q2, .inl (k 0, 40, .inl (fun _ => 0))), (q3, .inl (k 0, 40, .inl (fun _ => 0)))] := S
  refine r_putF C K S 0 rfl rfl clOk_So 2 (by decide) wf_So_21 rfl rfl (ty := .array .int) (v := .ref q3) (by decide +kernel) rfl rfl (Nat.le_of_ble_eq_true rfl) (fs' := [.ref q1, .ref q2, .ref q3, .null, .null, .null, .null, .null, .null, .null, .int 0, .int 0, .int 0, .int 0]) (ws' := [(h0, .inr (1, [.ref q1, .ref q2, .ref q3, .null, .null, .null, .null, .null, .null, .null, .int 0, .int 0, .int 0, .int 0])), (q1, .inl (k 4, 3731, .inr (.inr (.inr (.inr (fun _ => none)))))), (q2, .inl (k 0, 40, .inl (fun _ => 0))), (q3, .inl (k 0, 40, .inl (fun _ => 0)))]) rfl rfl d_So_init_27 (fun H locs S => ?_)
  refine lv_aload_n hx hb d_So_init_30 rfl (lv_at hl 0 rfl) ?_
  refine lv_bipush (v := 91) hx hb d_So_init_31 (by decide) ?_
  refine r_newI C K S hA 91 (by decide) (by decide) (by decide) (Nat.le_of_ble_eq_true rfl) (Nat.le_of_ble_eq_true rfl) d_So_init_33 (fun q4 H S => ?_)
  have S : Sw G A s.heap _ _ [(h0, .inr (1, [.ref q1, .ref q2, .ref q3, .null, .null, .null, .null, .null, .null, .null, .int 0, .int 0, .int 0, .int 0])), (q1, .inl (k 4, 3731, .inr (.inr (.inr (.inr (fun _ => none)))))), (q2, .inl (k 0, 40, .inl (fun _ => 0))), (q3, .inl (k 0, 40, .inl (fun _ => 0))), (q4, .inl (k 0, 91, .inl (fun _ => 0)))] := S
  refine r_putF C K S 0 rfl rfl clOk_So 3 (by decide) wf_So_24 rfl rfl (ty := .array .int) (v := .ref q4) (by decide +kernel) rfl rfl (Nat.le_of_ble_eq_true rfl) (fs' := [.ref q1, .ref q2, .ref q3, .ref q4, .null, .null, .null, .null, .null, .null, .int 0, .int 0, .int 0, .int 0]) (ws' := [(h0, .inr (1, [.ref q1, .ref q2, .ref q3, .ref q4, .null, .null, .null, .null, .null, .null, .int 0, .int 0, .int 0, .int 0])), (q1, .inl (k 4, 3731, .inr (.inr (.inr (.inr (fun _ => none)))))), (q2, .inl (k 0, 40, .inl (fun _ => 0))), (q3, .inl (k 0, 40, .inl (fun _ => 0))), (q4, .inl (k 0, 91, .inl (fun _ => 0)))]) rfl rfl d_So_init_35 (fun H locs S => ?_)
  refine lv_aload_n hx hb d_So_init_38 rfl (lv_at hl 0 rfl) ?_
  refine lv_bipush (v := 40) hx hb d_So_init_39 (by decide) ?_
  refine r_newI C K S hA 40 (by decide) (by decide) (by decide) (Nat.le_of_ble_eq_true rfl) (Nat.le_of_ble_eq_true rfl) d_So_init_41 (fun q5 H S => ?_)
  have S : Sw G A s.heap _ _ [(h0, .inr (1, [.ref q1, .ref q2, .ref q3, .ref q4, .null, .null, .null, .null, .null, .null, .int 0, .int 0, .int 0, .int 0])), (q1, .inl (k 4, 3731, .inr (.inr (.inr (.inr (fun _ => none)))))), (q2, .inl (k 0, 40, .inl (fun _ => 0))), (q3, .inl (k 0, 40, .inl (fun _ => 0))), (q4, .inl (k 0, 91, .inl (fun _ => 0))), (q5, .inl (k 0, 40, .inl (fun _ => 0)))] := S
  refine r_putF C K S 0 rfl rfl clOk_So 4 (by decide) wf_So_27 rfl rfl (ty := .array .int) (v := .ref q5) (by decide +kernel) rfl rfl (Nat.le_of_ble_eq_true rfl) (fs' := [.ref q1, .ref q2, .ref q3, .ref q4, .ref q5, .null, .null, .null, .null, .null, .int 0, .int 0, .int 0, .int 0]) (ws' := [(h0, .inr (1, [.ref q1, .ref q2, .ref q3, .ref q4, .ref q5, .null, .null, .null, .null, .null, .int 0, .int 0, .int 0, .int 0])), (q1, .inl (k 4, 3731, .inr (.inr (.inr (.inr (fun _ => none)))))), (q2, .inl (k 0, 40, .inl (fun _ => 0))), (q3, .inl (k 0, 40, .inl (fun _ => 0))), (q4, .inl (k 0, 91, .inl (fun _ => 0))), (q5, .inl (k 0, 40, .inl (fun _ => 0)))]) rfl rfl d_So_init_43 (fun H locs S => ?_)
  refine lv_aload_n hx hb d_So_init_46 rfl (lv_at hl 0 rfl) ?_
  refine r_new C K S hA 2 rfl clOk_Wh wl_So_9 wi_Wh wz_Wh t_Wh k_Wh (fs := [.null, .int 0, .int 0]) df_Wh (Nat.le_of_ble_eq_true rfl) (Nat.le_of_ble_eq_true rfl) d_So_init_47 (fun q6 H S => ?_)
  have S : Sw G A s.heap _ _ [(h0, .inr (1, [.ref q1, .ref q2, .ref q3, .ref q4, .ref q5, .null, .null, .null, .null, .null, .int 0, .int 0, .int 0, .int 0])), (q1, .inl (k 4, 3731, .inr (.inr (.inr (.inr (fun _ => none)))))), (q2, .inl (k 0, 40, .inl (fun _ => 0))), (q3, .inl (k 0, 40, .inl (fun _ => 0))), (q4, .inl (k 0, 91, .inl (fun _ => 0))), (q5, .inl (k 0, 40, .inl (fun _ => 0))), (q6, .inr (2, [.null, .int 0, .int 0]))] := S
  refine lv_dup hx hb d_So_init_50 rfl ?_
  refine r_backv (wi := [(q6, .inr (2, [.null, .int 0, .int 0]))]) (wr := [(h0, .inr (1, [.ref q1, .ref q2, .ref q3, .ref q4, .ref q5, .null, .null, .null, .null, .null, .int 0, .int 0, .int 0, .int 0])), (q1, .inl (k 4, 3731, .inr (.inr (.inr (.inr (fun _ => none)))))), (q2, .inl (k 0, 40, .inl (fun _ => 0))), (q3, .inl (k 0, 40, .inl (fun _ => 0))), (q4, .inl (k 0, 91, .inl (fun _ => 0))), (q5, .inl (k 0, 40, .inl (fun _ => 0)))]) S hA [6] [0, 1, 2, 3, 4, 5] rfl rfl (by decide) (by decide) (va_runI (As := []) (rest := [.ref q6, .ref h0]) ⟨hx, hb, C.2.2.1, C.2.2.2.1, C.2.2.2.2.1⟩ (k_Wh_init l G k q6 _) (k_ctor (n := 0) C wc_Wh_init rfl rfl wz_Wh wm_So_30 wn_Wh_init rfl (by decide +kernel) ⟨(Nat.le_of_ble_eq_true rfl), (Nat.le_of_ble_eq_true rfl)⟩) (pr_now K S [6] (by decide) rfl) rfl rfl hl.1 rfl (lv_room (Nat.le_of_ble_eq_true rfl)) d_So_init_51 ⟨(Nat.le_of_ble_eq_true rfl), (Nat.le_of_ble_eq_true rfl)⟩) (fun u7 H locs hw8 S => ?_)
  have S : Sw G A s.heap _ _ [(h0, .inr (1, [.ref q1, .ref q2, .ref q3, .ref q4, .ref q5, .null, .null, .null, .null, .null, .int 0, .int 0, .int 0, .int 0])), (q1, .inl (k 4, 3731, .inr (.inr (.inr (.inr (fun _ => none)))))), (q2, .inl (k 0, 40, .inl (fun _ => 0))), (q3, .inl (k 0, 40, .inl (fun _ => 0))), (q4, .inl (k 0, 91, .inl (fun _ => 0))), (q5, .inl (k 0, 40, .inl (fun _ => 0))), (q6, .inr (2, [.ref (u7 0), .int 0, .int 0])), ((u7 0), .inl (k 0, 3, .inl (fun _ => 0)))] := S
  refine r_putF C K S 0 rfl rfl clOk_So 5 (by decide) wf_So_31 rfl rfl (ty := .object "PotentialBench$Whole") (v := .ref q6) (by decide +kernel) rfl rfl (Nat.le_of_ble_eq_true rfl) (fs' := [.ref q1, .ref q2, .ref q3, .ref q4, .ref q5, .ref q6, .null, .null, .null, .null, .int 0, .int 0, .int 0, .int 0]) (ws' := [(h0, .inr (1, [.ref q1, .ref q2, .ref q3, .ref q4, .ref q5, .ref q6, .null, .null, .null, .null, .int 0, .int 0, .int 0, .int 0])), (q1, .inl (k 4, 3731, .inr (.inr (.inr (.inr (fun _ => none)))))), (q2, .inl (k 0, 40, .inl (fun _ => 0))), (q3, .inl (k 0, 40, .inl (fun _ => 0))), (q4, .inl (k 0, 91, .inl (fun _ => 0))), (q5, .inl (k 0, 40, .inl (fun _ => 0))), (q6, .inr (2, [.ref (u7 0), .int 0, .int 0])), ((u7 0), .inl (k 0, 3, .inl (fun _ => 0)))]) rfl rfl d_So_init_54 (fun H locs S => ?_)
  refine lv_aload_n hx hb d_So_init_57 rfl (lv_at hl 0 rfl) ?_
  refine r_new C K S hA 2 rfl clOk_Wh wl_So_9 wi_Wh wz_Wh t_Wh k_Wh (fs := [.null, .int 0, .int 0]) df_Wh (Nat.le_of_ble_eq_true rfl) (Nat.le_of_ble_eq_true rfl) d_So_init_58 (fun q9 H S => ?_)
  have S : Sw G A s.heap _ _ [(h0, .inr (1, [.ref q1, .ref q2, .ref q3, .ref q4, .ref q5, .ref q6, .null, .null, .null, .null, .int 0, .int 0, .int 0, .int 0])), (q1, .inl (k 4, 3731, .inr (.inr (.inr (.inr (fun _ => none)))))), (q2, .inl (k 0, 40, .inl (fun _ => 0))), (q3, .inl (k 0, 40, .inl (fun _ => 0))), (q4, .inl (k 0, 91, .inl (fun _ => 0))), (q5, .inl (k 0, 40, .inl (fun _ => 0))), (q6, .inr (2, [.ref (u7 0), .int 0, .int 0])), ((u7 0), .inl (k 0, 3, .inl (fun _ => 0))), (q9, .inr (2, [.null, .int 0, .int 0]))] := S
  refine lv_dup hx hb d_So_init_61 rfl ?_
  refine r_backv (wi := [(q9, .inr (2, [.null, .int 0, .int 0]))]) (wr := [(h0, .inr (1, [.ref q1, .ref q2, .ref q3, .ref q4, .ref q5, .ref q6, .null, .null, .null, .null, .int 0, .int 0, .int 0, .int 0])), (q1, .inl (k 4, 3731, .inr (.inr (.inr (.inr (fun _ => none)))))), (q2, .inl (k 0, 40, .inl (fun _ => 0))), (q3, .inl (k 0, 40, .inl (fun _ => 0))), (q4, .inl (k 0, 91, .inl (fun _ => 0))), (q5, .inl (k 0, 40, .inl (fun _ => 0))), (q6, .inr (2, [.ref (u7 0), .int 0, .int 0])), ((u7 0), .inl (k 0, 3, .inl (fun _ => 0)))]) S hA [8] [0, 1, 2, 3, 4, 5, 6, 7] rfl rfl (by decide) (by decide) (va_runI (As := []) (rest := [.ref q9, .ref h0]) ⟨hx, hb, C.2.2.1, C.2.2.2.1, C.2.2.2.2.1⟩ (k_Wh_init l G k q9 _) (k_ctor (n := 0) C wc_Wh_init rfl rfl wz_Wh wm_So_30 wn_Wh_init rfl (by decide +kernel) ⟨(Nat.le_of_ble_eq_true rfl), (Nat.le_of_ble_eq_true rfl)⟩) (pr_now K S [8] (by decide) rfl) rfl rfl hl.1 rfl (lv_room (Nat.le_of_ble_eq_true rfl)) d_So_init_62 ⟨(Nat.le_of_ble_eq_true rfl), (Nat.le_of_ble_eq_true rfl)⟩) (fun u10 H locs hw11 S => ?_)
  have S : Sw G A s.heap _ _ [(h0, .inr (1, [.ref q1, .ref q2, .ref q3, .ref q4, .ref q5, .ref q6, .null, .null, .null, .null, .int 0, .int 0, .int 0, .int 0])), (q1, .inl (k 4, 3731, .inr (.inr (.inr (.inr (fun _ => none)))))), (q2, .inl (k 0, 40, .inl (fun _ => 0))), (q3, .inl (k 0, 40, .inl (fun _ => 0))), (q4, .inl (k 0, 91, .inl (fun _ => 0))), (q5, .inl (k 0, 40, .inl (fun _ => 0))), (q6, .inr (2, [.ref (u7 0), .int 0, .int 0])), ((u7 0), .inl (k 0, 3, .inl (fun _ => 0))), (q9, .inr (2, [.ref (u10 0), .int 0, .int 0])), ((u10 0), .inl (k 0, 3, .inl (fun _ => 0)))] := S
  refine r_putF C K S 0 rfl rfl clOk_So 6 (by decide) wf_So_35 rfl rfl (ty := .object "PotentialBench$Whole") (v := .ref q9) (by decide +kernel) rfl rfl (Nat.le_of_ble_eq_true rfl) (fs' := [.ref q1, .ref q2, .ref q3, .ref q4, .ref q5, .ref q6, .ref q9, .null, .null, .null, .int 0, .int 0, .int 0, .int 0]) (ws' := [(h0, .inr (1, [.ref q1, .ref q2, .ref q3, .ref q4, .ref q5, .ref q6, .ref q9, .null, .null, .null, .int 0, .int 0, .int 0, .int 0])), (q1, .inl (k 4, 3731, .inr (.inr (.inr (.inr (fun _ => none)))))), (q2, .inl (k 0, 40, .inl (fun _ => 0))), (q3, .inl (k 0, 40, .inl (fun _ => 0))), (q4, .inl (k 0, 91, .inl (fun _ => 0))), (q5, .inl (k 0, 40, .inl (fun _ => 0))), (q6, .inr (2, [.ref (u7 0), .int 0, .int 0])), ((u7 0), .inl (k 0, 3, .inl (fun _ => 0))), (q9, .inr (2, [.ref (u10 0), .int 0, .int 0])), ((u10 0), .inl (k 0, 3, .inl (fun _ => 0)))]) rfl rfl d_So_init_65 (fun H locs S => ?_)
  refine lv_aload_n hx hb d_So_init_68 rfl (lv_at hl 0 rfl) ?_
  refine r_new C K S hA 2 rfl clOk_Wh wl_So_9 wi_Wh wz_Wh t_Wh k_Wh (fs := [.null, .int 0, .int 0]) df_Wh (Nat.le_of_ble_eq_true rfl) (Nat.le_of_ble_eq_true rfl) d_So_init_69 (fun q12 H S => ?_)
  have S : Sw G A s.heap _ _ [(h0, .inr (1, [.ref q1, .ref q2, .ref q3, .ref q4, .ref q5, .ref q6, .ref q9, .null, .null, .null, .int 0, .int 0, .int 0, .int 0])), (q1, .inl (k 4, 3731, .inr (.inr (.inr (.inr (fun _ => none)))))), (q2, .inl (k 0, 40, .inl (fun _ => 0))), (q3, .inl (k 0, 40, .inl (fun _ => 0))), (q4, .inl (k 0, 91, .inl (fun _ => 0))), (q5, .inl (k 0, 40, .inl (fun _ => 0))), (q6, .inr (2, [.ref (u7 0), .int 0, .int 0])), ((u7 0), .inl (k 0, 3, .inl (fun _ => 0))), (q9, .inr (2, [.ref (u10 0), .int 0, .int 0])), ((u10 0), .inl (k 0, 3, .inl (fun _ => 0))), (q12, .inr (2, [.null, .int 0, .int 0]))] := S
  refine lv_dup hx hb d_So_init_72 rfl ?_
  refine r_backv (wi := [(q12, .inr (2, [.null, .int 0, .int 0]))]) (wr := [(h0, .inr (1, [.ref q1, .ref q2, .ref q3, .ref q4, .ref q5, .ref q6, .ref q9, .null, .null, .null, .int 0, .int 0, .int 0, .int 0])), (q1, .inl (k 4, 3731, .inr (.inr (.inr (.inr (fun _ => none)))))), (q2, .inl (k 0, 40, .inl (fun _ => 0))), (q3, .inl (k 0, 40, .inl (fun _ => 0))), (q4, .inl (k 0, 91, .inl (fun _ => 0))), (q5, .inl (k 0, 40, .inl (fun _ => 0))), (q6, .inr (2, [.ref (u7 0), .int 0, .int 0])), ((u7 0), .inl (k 0, 3, .inl (fun _ => 0))), (q9, .inr (2, [.ref (u10 0), .int 0, .int 0])), ((u10 0), .inl (k 0, 3, .inl (fun _ => 0)))]) S hA [10] [0, 1, 2, 3, 4, 5, 6, 7, 8, 9] rfl rfl (by decide) (by decide) (va_runI (As := []) (rest := [.ref q12, .ref h0]) ⟨hx, hb, C.2.2.1, C.2.2.2.1, C.2.2.2.2.1⟩ (k_Wh_init l G k q12 _) (k_ctor (n := 0) C wc_Wh_init rfl rfl wz_Wh wm_So_30 wn_Wh_init rfl (by decide +kernel) ⟨(Nat.le_of_ble_eq_true rfl), (Nat.le_of_ble_eq_true rfl)⟩) (pr_now K S [10] (by decide) rfl) rfl rfl hl.1 rfl (lv_room (Nat.le_of_ble_eq_true rfl)) d_So_init_73 ⟨(Nat.le_of_ble_eq_true rfl), (Nat.le_of_ble_eq_true rfl)⟩) (fun u13 H locs hw14 S => ?_)
  have S : Sw G A s.heap _ _ [(h0, .inr (1, [.ref q1, .ref q2, .ref q3, .ref q4, .ref q5, .ref q6, .ref q9, .null, .null, .null, .int 0, .int 0, .int 0, .int 0])), (q1, .inl (k 4, 3731, .inr (.inr (.inr (.inr (fun _ => none)))))), (q2, .inl (k 0, 40, .inl (fun _ => 0))), (q3, .inl (k 0, 40, .inl (fun _ => 0))), (q4, .inl (k 0, 91, .inl (fun _ => 0))), (q5, .inl (k 0, 40, .inl (fun _ => 0))), (q6, .inr (2, [.ref (u7 0), .int 0, .int 0])), ((u7 0), .inl (k 0, 3, .inl (fun _ => 0))), (q9, .inr (2, [.ref (u10 0), .int 0, .int 0])), ((u10 0), .inl (k 0, 3, .inl (fun _ => 0))), (q12, .inr (2, [.ref (u13 0), .int 0, .int 0])), ((u13 0), .inl (k 0, 3, .inl (fun _ => 0)))] := S
  refine r_putF C K S 0 rfl rfl clOk_So 7 (by decide) wf_So_38 rfl rfl (ty := .object "PotentialBench$Whole") (v := .ref q12) (by decide +kernel) rfl rfl (Nat.le_of_ble_eq_true rfl) (fs' := [.ref q1, .ref q2, .ref q3, .ref q4, .ref q5, .ref q6, .ref q9, .ref q12, .null, .null, .int 0, .int 0, .int 0, .int 0]) (ws' := [(h0, .inr (1, [.ref q1, .ref q2, .ref q3, .ref q4, .ref q5, .ref q6, .ref q9, .ref q12, .null, .null, .int 0, .int 0, .int 0, .int 0])), (q1, .inl (k 4, 3731, .inr (.inr (.inr (.inr (fun _ => none)))))), (q2, .inl (k 0, 40, .inl (fun _ => 0))), (q3, .inl (k 0, 40, .inl (fun _ => 0))), (q4, .inl (k 0, 91, .inl (fun _ => 0))), (q5, .inl (k 0, 40, .inl (fun _ => 0))), (q6, .inr (2, [.ref (u7 0), .int 0, .int 0])), ((u7 0), .inl (k 0, 3, .inl (fun _ => 0))), (q9, .inr (2, [.ref (u10 0), .int 0, .int 0])), ((u10 0), .inl (k 0, 3, .inl (fun _ => 0))), (q12, .inr (2, [.ref (u13 0), .int 0, .int 0])), ((u13 0), .inl (k 0, 3, .inl (fun _ => 0)))]) rfl rfl d_So_init_76 (fun H locs S => ?_)
  refine lv_aload_n hx hb d_So_init_79 rfl (lv_at hl 0 rfl) ?_
  refine r_new C K S hA 2 rfl clOk_Wh wl_So_9 wi_Wh wz_Wh t_Wh k_Wh (fs := [.null, .int 0, .int 0]) df_Wh (Nat.le_of_ble_eq_true rfl) (Nat.le_of_ble_eq_true rfl) d_So_init_80 (fun q15 H S => ?_)
  have S : Sw G A s.heap _ _ [(h0, .inr (1, [.ref q1, .ref q2, .ref q3, .ref q4, .ref q5, .ref q6, .ref q9, .ref q12, .null, .null, .int 0, .int 0, .int 0, .int 0])), (q1, .inl (k 4, 3731, .inr (.inr (.inr (.inr (fun _ => none)))))), (q2, .inl (k 0, 40, .inl (fun _ => 0))), (q3, .inl (k 0, 40, .inl (fun _ => 0))), (q4, .inl (k 0, 91, .inl (fun _ => 0))), (q5, .inl (k 0, 40, .inl (fun _ => 0))), (q6, .inr (2, [.ref (u7 0), .int 0, .int 0])), ((u7 0), .inl (k 0, 3, .inl (fun _ => 0))), (q9, .inr (2, [.ref (u10 0), .int 0, .int 0])), ((u10 0), .inl (k 0, 3, .inl (fun _ => 0))), (q12, .inr (2, [.ref (u13 0), .int 0, .int 0])), ((u13 0), .inl (k 0, 3, .inl (fun _ => 0))), (q15, .inr (2, [.null, .int 0, .int 0]))] := S
  refine lv_dup hx hb d_So_init_83 rfl ?_
  refine r_backv (wi := [(q15, .inr (2, [.null, .int 0, .int 0]))]) (wr := [(h0, .inr (1, [.ref q1, .ref q2, .ref q3, .ref q4, .ref q5, .ref q6, .ref q9, .ref q12, .null, .null, .int 0, .int 0, .int 0, .int 0])), (q1, .inl (k 4, 3731, .inr (.inr (.inr (.inr (fun _ => none)))))), (q2, .inl (k 0, 40, .inl (fun _ => 0))), (q3, .inl (k 0, 40, .inl (fun _ => 0))), (q4, .inl (k 0, 91, .inl (fun _ => 0))), (q5, .inl (k 0, 40, .inl (fun _ => 0))), (q6, .inr (2, [.ref (u7 0), .int 0, .int 0])), ((u7 0), .inl (k 0, 3, .inl (fun _ => 0))), (q9, .inr (2, [.ref (u10 0), .int 0, .int 0])), ((u10 0), .inl (k 0, 3, .inl (fun _ => 0))), (q12, .inr (2, [.ref (u13 0), .int 0, .int 0])), ((u13 0), .inl (k 0, 3, .inl (fun _ => 0)))]) S hA [12] [0, 1, 2, 3, 4, 5, 6, 7, 8, 9, 10, 11] rfl rfl (by decide) (by decide) (va_runI (As := []) (rest := [.ref q15, .ref h0]) ⟨hx, hb, C.2.2.1, C.2.2.2.1, C.2.2.2.2.1⟩ (k_Wh_init l G k q15 _) (k_ctor (n := 0) C wc_Wh_init rfl rfl wz_Wh wm_So_30 wn_Wh_init rfl (by decide +kernel) ⟨(Nat.le_of_ble_eq_true rfl), (Nat.le_of_ble_eq_true rfl)⟩) (pr_now K S [12] (by decide) rfl) rfl rfl hl.1 rfl (lv_room (Nat.le_of_ble_eq_true rfl)) d_So_init_84 ⟨(Nat.le_of_ble_eq_true rfl), (Nat.le_of_ble_eq_true rfl)⟩) (fun u16 H locs hw17 S => ?_)
  have S : Sw G A s.heap _ _ [(h0, .inr (1, [.ref q1, .ref q2, .ref q3, .ref q4, .ref q5, .ref q6, .ref q9, .ref q12, .null, .null, .int 0, .int 0, .int 0, .int 0])), (q1, .inl (k 4, 3731, .inr (.inr (.inr (.inr (fun _ => none)))))), (q2, .inl (k 0, 40, .inl (fun _ => 0))), (q3, .inl (k 0, 40, .inl (fun _ => 0))), (q4, .inl (k 0, 91, .inl (fun _ => 0))), (q5, .inl (k 0, 40, .inl (fun _ => 0))), (q6, .inr (2, [.ref (u7 0), .int 0, .int 0])), ((u7 0), .inl (k 0, 3, .inl (fun _ => 0))), (q9, .inr (2, [.ref (u10 0), .int 0, .int 0])), ((u10 0), .inl (k 0, 3, .inl (fun _ => 0))), (q12, .inr (2, [.ref (u13 0), .int 0, .int 0])), ((u13 0), .inl (k 0, 3, .inl (fun _ => 0))), (q15, .inr (2, [.ref (u16 0), .int 0, .int 0])), ((u16 0), .inl (k 0, 3, .inl (fun _ => 0)))] := S
  refine r_putF C K S 0 rfl rfl clOk_So 8 (by decide) wf_So_41 rfl rfl (ty := .object "PotentialBench$Whole") (v := .ref q15) (by decide +kernel) rfl rfl (Nat.le_of_ble_eq_true rfl) (fs' := [.ref q1, .ref q2, .ref q3, .ref q4, .ref q5, .ref q6, .ref q9, .ref q12, .ref q15, .null, .int 0, .int 0, .int 0, .int 0]) (ws' := [(h0, .inr (1, [.ref q1, .ref q2, .ref q3, .ref q4, .ref q5, .ref q6, .ref q9, .ref q12, .ref q15, .null, .int 0, .int 0, .int 0, .int 0])), (q1, .inl (k 4, 3731, .inr (.inr (.inr (.inr (fun _ => none)))))), (q2, .inl (k 0, 40, .inl (fun _ => 0))), (q3, .inl (k 0, 40, .inl (fun _ => 0))), (q4, .inl (k 0, 91, .inl (fun _ => 0))), (q5, .inl (k 0, 40, .inl (fun _ => 0))), (q6, .inr (2, [.ref (u7 0), .int 0, .int 0])), ((u7 0), .inl (k 0, 3, .inl (fun _ => 0))), (q9, .inr (2, [.ref (u10 0), .int 0, .int 0])), ((u10 0), .inl (k 0, 3, .inl (fun _ => 0))), (q12, .inr (2, [.ref (u13 0), .int 0, .int 0])), ((u13 0), .inl (k 0, 3, .inl (fun _ => 0))), (q15, .inr (2, [.ref (u16 0), .int 0, .int 0])), ((u16 0), .inl (k 0, 3, .inl (fun _ => 0)))]) rfl rfl d_So_init_87 (fun H locs S => ?_)
  refine lv_aload_n hx hb d_So_init_90 rfl (lv_at hl 0 rfl) ?_
  refine r_new C K S hA 2 rfl clOk_Wh wl_So_9 wi_Wh wz_Wh t_Wh k_Wh (fs := [.null, .int 0, .int 0]) df_Wh (Nat.le_of_ble_eq_true rfl) (Nat.le_of_ble_eq_true rfl) d_So_init_91 (fun q18 H S => ?_)
  have S : Sw G A s.heap _ _ [(h0, .inr (1, [.ref q1, .ref q2, .ref q3, .ref q4, .ref q5, .ref q6, .ref q9, .ref q12, .ref q15, .null, .int 0, .int 0, .int 0, .int 0])), (q1, .inl (k 4, 3731, .inr (.inr (.inr (.inr (fun _ => none)))))), (q2, .inl (k 0, 40, .inl (fun _ => 0))), (q3, .inl (k 0, 40, .inl (fun _ => 0))), (q4, .inl (k 0, 91, .inl (fun _ => 0))), (q5, .inl (k 0, 40, .inl (fun _ => 0))), (q6, .inr (2, [.ref (u7 0), .int 0, .int 0])), ((u7 0), .inl (k 0, 3, .inl (fun _ => 0))), (q9, .inr (2, [.ref (u10 0), .int 0, .int 0])), ((u10 0), .inl (k 0, 3, .inl (fun _ => 0))), (q12, .inr (2, [.ref (u13 0), .int 0, .int 0])), ((u13 0), .inl (k 0, 3, .inl (fun _ => 0))), (q15, .inr (2, [.ref (u16 0), .int 0, .int 0])), ((u16 0), .inl (k 0, 3, .inl (fun _ => 0))), (q18, .inr (2, [.null, .int 0, .int 0]))] := S
  refine lv_dup hx hb d_So_init_94 rfl ?_
  refine r_backv (wi := [(q18, .inr (2, [.null, .int 0, .int 0]))]) (wr := [(h0, .inr (1, [.ref q1, .ref q2, .ref q3, .ref q4, .ref q5, .ref q6, .ref q9, .ref q12, .ref q15, .null, .int 0, .int 0, .int 0, .int 0])), (q1, .inl (k 4, 3731, .inr (.inr (.inr (.inr (fun _ => none)))))), (q2, .inl (k 0, 40, .inl (fun _ => 0))), (q3, .inl (k 0, 40, .inl (fun _ => 0))), (q4, .inl (k 0, 91, .inl (fun _ => 0))), (q5, .inl (k 0, 40, .inl (fun _ => 0))), (q6, .inr (2, [.ref (u7 0), .int 0, .int 0])), ((u7 0), .inl (k 0, 3, .inl (fun _ => 0))), (q9, .inr (2, [.ref (u10 0), .int 0, .int 0])), ((u10 0), .inl (k 0, 3, .inl (fun _ => 0))), (q12, .inr (2, [.ref (u13 0), .int 0, .int 0])), ((u13 0), .inl (k 0, 3, .inl (fun _ => 0))), (q15, .inr (2, [.ref (u16 0), .int 0, .int 0])), ((u16 0), .inl (k 0, 3, .inl (fun _ => 0)))]) S hA [14] [0, 1, 2, 3, 4, 5, 6, 7, 8, 9, 10, 11, 12, 13] rfl rfl (by decide) (by decide) (va_runI (As := []) (rest := [.ref q18, .ref h0]) ⟨hx, hb, C.2.2.1, C.2.2.2.1, C.2.2.2.2.1⟩ (k_Wh_init l G k q18 _) (k_ctor (n := 0) C wc_Wh_init rfl rfl wz_Wh wm_So_30 wn_Wh_init rfl (by decide +kernel) ⟨(Nat.le_of_ble_eq_true rfl), (Nat.le_of_ble_eq_true rfl)⟩) (pr_now K S [14] (by decide) rfl) rfl rfl hl.1 rfl (lv_room (Nat.le_of_ble_eq_true rfl)) d_So_init_95 ⟨(Nat.le_of_ble_eq_true rfl), (Nat.le_of_ble_eq_true rfl)⟩) (fun u19 H locs hw20 S => ?_)
  have S : Sw G A s.heap _ _ [(h0, .inr (1, [.ref q1, .ref q2, .ref q3, .ref q4, .ref q5, .ref q6, .ref q9, .ref q12, .ref q15, .null, .int 0, .int 0, .int 0, .int 0])), (q1, .inl (k 4, 3731, .inr (.inr (.inr (.inr (fun _ => none)))))), (q2, .inl (k 0, 40, .inl (fun _ => 0))), (q3, .inl (k 0, 40, .inl (fun _ => 0))), (q4, .inl (k 0, 91, .inl (fun _ => 0))), (q5, .inl (k 0, 40, .inl (fun _ => 0))), (q6, .inr (2, [.ref (u7 0), .int 0, .int 0])), ((u7 0), .inl (k 0, 3, .inl (fun _ => 0))), (q9, .inr (2, [.ref (u10 0), .int 0, .int 0])), ((u10 0), .inl (k 0, 3, .inl (fun _ => 0))), (q12, .inr (2, [.ref (u13 0), .int 0, .int 0])), ((u13 0), .inl (k 0, 3, .inl (fun _ => 0))), (q15, .inr (2, [.ref (u16 0), .int 0, .int 0])), ((u16 0), .inl (k 0, 3, .inl (fun _ => 0))), (q18, .inr (2, [.ref (u19 0), .int 0, .int 0])), ((u19 0), .inl (k 0, 3, .inl (fun _ => 0)))] := S
  refine r_putF C K S 0 rfl rfl clOk_So 9 (by decide) wf_So_44 rfl rfl (ty := .object "PotentialBench$Whole") (v := .ref q18) (by decide +kernel) rfl rfl (Nat.le_of_ble_eq_true rfl) (fs' := [.ref q1, .ref q2, .ref q3, .ref q4, .ref q5, .ref q6, .ref q9, .ref q12, .ref q15, .ref q18, .int 0, .int 0, .int 0, .int 0]) (ws' := [(h0, .inr (1, [.ref q1, .ref q2, .ref q3, .ref q4, .ref q5, .ref q6, .ref q9, .ref q12, .ref q15, .ref q18, .int 0, .int 0, .int 0, .int 0])), (q1, .inl (k 4, 3731, .inr (.inr (.inr (.inr (fun _ => none)))))), (q2, .inl (k 0, 40, .inl (fun _ => 0))), (q3, .inl (k 0, 40, .inl (fun _ => 0))), (q4, .inl (k 0, 91, .inl (fun _ => 0))), (q5, .inl (k 0, 40, .inl (fun _ => 0))), (q6, .inr (2, [.ref (u7 0), .int 0, .int 0])), ((u7 0), .inl (k 0, 3, .inl (fun _ => 0))), (q9, .inr (2, [.ref (u10 0), .int 0, .int 0])), ((u10 0), .inl (k 0, 3, .inl (fun _ => 0))), (q12, .inr (2, [.ref (u13 0), .int 0, .int 0])), ((u13 0), .inl (k 0, 3, .inl (fun _ => 0))), (q15, .inr (2, [.ref (u16 0), .int 0, .int 0])), ((u16 0), .inl (k 0, 3, .inl (fun _ => 0))), (q18, .inr (2, [.ref (u19 0), .int 0, .int 0])), ((u19 0), .inl (k 0, 3, .inl (fun _ => 0)))]) rfl rfl d_So_init_98 (fun H locs S => ?_)
  exact r_vret C K (ul [q1, q2, q3, q4, q5, q6, (u7 0), q9, (u10 0), q12, (u13 0), q15, (u16 0), q18, (u19 0)]) trivial (S.sub [0, 1, 2, 3, 4, 5, 6, 7, 8, 9, 10, 11, 12, 13, 14, 15] (by decide) rfl) d_So_init_101 (Nat.le_of_ble_eq_true rfl) (Nat.le_of_ble_eq_true rfl)
theorem d_Be_init_0 : decode c_Be_init 0 = .ok (.aload_n 0, 1) := by decide +kernel
theorem d_Be_init_1 : decode c_Be_init 1 = .ok (.invokespecial 3, 3) := by decide +kernel
theorem d_Be_init_4 : decode c_Be_init 4 = .ok (.aload_n 0, 1) := by decide +kernel
theorem d_Be_init_5 : decode c_Be_init 5 = .ok (.iconst 4, 1) := by decide +kernel
theorem d_Be_init_6 : decode c_Be_init 6 = .ok (.anewarray 9, 3) := by decide +kernel
theorem d_Be_init_9 : decode c_Be_init 9 = .ok (.putfield 11, 3) := by decide +kernel
theorem d_Be_init_12 : decode c_Be_init 12 = .ok (.aload_n 0, 1) := by decide +kernel
theorem d_Be_init_13 : decode c_Be_init 13 = .ok (.new 9, 3) := by decide +kernel
theorem d_Be_init_16 : decode c_Be_init 16 = .ok (.dup, 1) := by decide +kernel
theorem d_Be_init_17 : decode c_Be_init 17 = .ok (.invokespecial 17, 3) := by decide +kernel
theorem d_Be_init_20 : decode c_Be_init 20 = .ok (.putfield 18, 3) := by decide +kernel
theorem d_Be_init_23 : decode c_Be_init 23 = .ok (.aload_n 0, 1) := by decide +kernel
theorem d_Be_init_24 : decode c_Be_init 24 = .ok (.new 9, 3) := by decide +kernel
theorem d_Be_init_27 : decode c_Be_init 27 = .ok (.dup, 1) := by decide +kernel
theorem d_Be_init_28 : decode c_Be_init 28 = .ok (.invokespecial 17, 3) := by decide +kernel
theorem d_Be_init_31 : decode c_Be_init 31 = .ok (.putfield 22, 3) := by decide +kernel
theorem d_Be_init_34 : decode c_Be_init 34 = .ok (.aload_n 0, 1) := by decide +kernel
theorem d_Be_init_35 : decode c_Be_init 35 = .ok (.new 9, 3) := by decide +kernel
theorem d_Be_init_38 : decode c_Be_init 38 = .ok (.dup, 1) := by decide +kernel
theorem d_Be_init_39 : decode c_Be_init 39 = .ok (.invokespecial 17, 3) := by decide +kernel
theorem d_Be_init_42 : decode c_Be_init 42 = .ok (.putfield 25, 3) := by decide +kernel
theorem d_Be_init_45 : decode c_Be_init 45 = .ok (.aload_n 0, 1) := by decide +kernel
theorem d_Be_init_46 : decode c_Be_init 46 = .ok (.new 9, 3) := by decide +kernel
theorem d_Be_init_49 : decode c_Be_init 49 = .ok (.dup, 1) := by decide +kernel
theorem d_Be_init_50 : decode c_Be_init 50 = .ok (.invokespecial 17, 3) := by decide +kernel
theorem d_Be_init_53 : decode c_Be_init 53 = .ok (.putfield 28, 3) := by decide +kernel
theorem d_Be_init_56 : decode c_Be_init 56 = .ok (.aload_n 0, 1) := by decide +kernel
theorem d_Be_init_57 : decode c_Be_init 57 = .ok (.new 9, 3) := by decide +kernel
theorem d_Be_init_60 : decode c_Be_init 60 = .ok (.dup, 1) := by decide +kernel
theorem d_Be_init_61 : decode c_Be_init 61 = .ok (.invokespecial 17, 3) := by decide +kernel
theorem d_Be_init_64 : decode c_Be_init 64 = .ok (.putfield 31, 3) := by decide +kernel
theorem d_Be_init_67 : decode c_Be_init 67 = .ok (.iconst 0, 1) := by decide +kernel
theorem d_Be_init_68 : decode c_Be_init 68 = .ok (.istore_n 1, 1) := by decide +kernel
theorem d_Be_init_69 : decode c_Be_init 69 = .ok (.iload_n 1, 1) := by decide +kernel
theorem d_Be_init_70 : decode c_Be_init 70 = .ok (.iconst 3, 1) := by decide +kernel
theorem d_Be_init_71 : decode c_Be_init 71 = .ok (.if_icmp .gt 22, 3) := by decide +kernel
theorem d_Be_init_74 : decode c_Be_init 74 = .ok (.aload_n 0, 1) := by decide +kernel
theorem d_Be_init_75 : decode c_Be_init 75 = .ok (.getfield 11, 3) := by decide +kernel
theorem d_Be_init_78 : decode c_Be_init 78 = .ok (.iload_n 1, 1) := by decide +kernel
theorem d_Be_init_79 : decode c_Be_init 79 = .ok (.new 9, 3) := by decide +kernel
theorem d_Be_init_82 : decode c_Be_init 82 = .ok (.dup, 1) := by decide +kernel
theorem d_Be_init_83 : decode c_Be_init 83 = .ok (.invokespecial 17, 3) := by decide +kernel
theorem d_Be_init_86 : decode c_Be_init 86 = .ok (.aastore, 1) := by decide +kernel
theorem d_Be_init_87 : decode c_Be_init 87 = .ok (.iinc 1 1, 3) := by decide +kernel
theorem d_Be_init_90 : decode c_Be_init 90 = .ok (.goto (-21), 3) := by decide +kernel
theorem d_Be_init_93 : decode c_Be_init 93 = .ok (.return_, 1) := by decide +kernel
set_option maxRecDepth 100000 in
set_option maxHeartbeats 4000000 in
/-- Best(): nine numbers, 0 -/
theorem k_Be_init (l : Launch) (G : va_G) (k : Nat → ClassId) (h0 sz : Nat) : CV l y_Be_init c_Be_init 2 { frames := 2, cells := 19, slots := 58, locals := 40 } [.ref h0] G k sz [(h0, .inr (3, [.null, .null, .null, .null, .null, .null, .int 0, .int 0]))] (fun _ : Nat → Nat => True) (fun u => [(h0, .inr (3, [.ref (u 0), .ref (u 1), .ref (u 3), .ref (u 5), .ref (u 7), .ref (u 9), .int 0, .int 0])), ((u 0), .inl (k 4, 4, .inr (.inr (.inr (.inr (va_up (va_up (va_up (va_up (fun _ => none) 0 (some (u 11))) 1 (some (u 13))) 2 (some (u 15))) 3 (some (u 17)))))))), ((u 1), .inr (2, [.ref (u 2), .int 0, .int 0])), ((u 2), .inl (k 0, 3, .inl (fun _ => 0))), ((u 3), .inr (2, [.ref (u 4), .int 0, .int 0])), ((u 4), .inl (k 0, 3, .inl (fun _ => 0))), ((u 5), .inr (2, [.ref (u 6), .int 0, .int 0])), ((u 6), .inl (k 0, 3, .inl (fun _ => 0))), ((u 7), .inr (2, [.ref (u 8), .int 0, .int 0])), ((u 8), .inl (k 0, 3, .inl (fun _ => 0))), ((u 9), .inr (2, [.ref (u 10), .int 0, .int 0])), ((u 10), .inl (k 0, 3, .inl (fun _ => 0))), ((u 11), .inr (2, [.ref (u 12), .int 0, .int 0])), ((u 12), .inl (k 0, 3, .inl (fun _ => 0))), ((u 13), .inr (2, [.ref (u 14), .int 0, .int 0])), ((u 14), .inl (k 0, 3, .inl (fun _ => 0))), ((u 15), .inr (2, [.ref (u 16), .int 0, .int 0])), ((u 16), .inl (k 0, 3, .inl (fun _ => 0))), ((u 17), .inr (2, [.ref (u 18), .int 0, .int 0])), ((u 18), .inl (k 0, 3, .inl (fun _ => 0)))]) 19 58 := by
  refine met_start (by decide) (Nat.le_of_ble_eq_true rfl) ?_
  intro p e s m below meth c C K hA hsz S ls hl
  generalize va_A [(h0, .inr (3, [.null, .null, .null, .null, .null, .null, .int 0, .int 0]))] sz = A at hA S ⊢
  have hx := C.1
  have hb := C.2.1
  have hl : lv_has ls 2 [(0, .ref h0)] := hl
  refine lv_aload_n hx hb d_Be_init_0 rfl (lv_at hl 0 rfl) ?_
  refine r_objInit C wm_Be_3 hl.1 d_Be_init_1 (Nat.le_of_ble_eq_true rfl) (Nat.le_of_ble_eq_true rfl) ?_
  refine lv_aload_n hx hb d_Be_init_4 rfl (lv_at hl 0 rfl) ?_
  refine lv_iconst (v := 4) hx hb d_Be_init_5 (by decide) ?_
  refine r_newW C K S hA wl_Be_9 4 (by decide) (by decide) (by decide) (Nat.le_of_ble_eq_true rfl) (Nat.le_of_ble_eq_true rfl) d_Be_init_6 (fun q1 H S => ?_)
  have S : Sw G A s.heap _ _ [(h0, .inr (3, [.null, .null, .null, .null, .null, .null, .int 0, .int 0])), (q1, .inl (k 4, 4, .inr (.inr (.inr (.inr (fun _ => none))))))] := S
  refine r_putF C K S 0 rfl rfl clOk_Be 0 (by decide) wf_Be_11 rfl rfl (ty := .array (.object "PotentialBench$Whole")) (v := .ref q1) (by decide +kernel) rfl rfl (Nat.le_of_ble_eq_true rfl) (fs' := [.ref q1, .null, .null, .null, .null, .null, .int 0, .int 0]) (ws' := [(h0, .inr (3, [.ref q1, .null, .null, .null, .null, .null, .int 0, .int 0])), (q1, .inl (k 4, 4, .inr (.inr (.inr (.inr (fun _ => none))))))]) rfl rfl d_Be_init_9 (fun H locs S => ?_)
  refine lv_aload_n hx hb d_Be_init_12 rfl (lv_at hl 0 rfl) ?_
  refine r_new C K S hA 2 rfl clOk_Wh wl_Be_9 wi_Wh wz_Wh t_Wh k_Wh (fs := [.null, .int 0, .int 0]) df_Wh (Nat.le_of_ble_eq_true rfl) (Nat.le_of_ble_eq_true rfl) d_Be_init_13 (fun q2 H S => ?_)
  have S : Sw G A s.heap _ _ [(h0, .inr (3, [.ref q1, .null, .null, .null, .null, .null, .int 0, .int 0])), (q1, .inl (k 4, 4, .inr (.inr (.inr (.inr (fun _ => none)))))), (q2, .inr (2, [.null, .int 0, .int 0]))] := S
  refine lv_dup hx hb d_Be_init_16 rfl ?_
  refine r_backv (wi := [(q2, .inr (2, [.null, .int 0, .int 0]))]) (wr := [(h0, .inr (3, [.ref q1, .null, .null, .null, .null, .null, .int 0, .int 0])), (q1, .inl (k 4, 4, .inr (.inr (.inr (.inr (fun _ => none))))))]) S hA [2] [0, 1] rfl rfl (by decide) (by decide) (va_runI (As := []) (rest := [.ref q2, .ref h0]) ⟨hx, hb, C.2.2.1, C.2.2.2.1, C.2.2.2.2.1⟩ (k_Wh_init l G k q2 _) (k_ctor (n := 0) C wc_Wh_init rfl rfl wz_Wh wm_Be_17 wn_Wh_init rfl (by decide +kernel) ⟨(Nat.le_of_ble_eq_true rfl), (Nat.le_of_ble_eq_true rfl)⟩) (pr_now K S [2] (by decide) rfl) rfl rfl hl.1 rfl (lv_room (Nat.le_of_ble_eq_true rfl)) d_Be_init_17 ⟨(Nat.le_of_ble_eq_true rfl), (Nat.le_of_ble_eq_true rfl)⟩) (fun u3 H locs hw4 S => ?_)
  have S : Sw G A s.heap _ _ [(h0, .inr (3, [.ref q1, .null, .null, .null, .null, .null, .int 0, .int 0])), (q1, .inl (k 4, 4, .inr (.inr (.inr (.inr (fun _ => none)))))), (q2, .inr (2, [.ref (u3 0), .int 0, .int 0])), ((u3 0), .inl (k 0, 3, .inl (fun _ => 0)))] := S
  refine r_putF C K S 0 rfl rfl clOk_Be 1 (by decide) wf_Be_18 rfl rfl (ty := .object "PotentialBench$Whole") (v := .ref q2) (by decide +kernel) rfl rfl (Nat.le_of_ble_eq_true rfl) (fs' := [.ref q1, .ref q2, .null, .null, .null, .null, .int 0, .int 0]) (ws' := [(h0, .inr (3, [.ref q1, .ref q2, .null, .null, .null, .null, .int 0, .int 0])), (q1, .inl (k 4, 4, .inr (.inr (.inr (.inr (fun _ => none)))))), (q2, .inr (2, [.ref (u3 0), .int 0, .int 0])), ((u3 0), .inl (k 0, 3, .inl (fun _ => 0)))]) rfl rfl d_Be_init_20 (fun H locs S => ?_)
  refine lv_aload_n hx hb d_Be_init_23 rfl (lv_at hl 0 rfl) ?_
  refine r_new C K S hA 2 rfl clOk_Wh wl_Be_9 wi_Wh wz_Wh t_Wh k_Wh (fs := [.null, .int 0, .int 0]) df_Wh (Nat.le_of_ble_eq_true rfl) (Nat.le_of_ble_eq_true rfl) d_Be_init_24 (fun q5 H S => ?_)
  have S : Sw G A s.heap _ _ [(h0, .inr (3, [.ref q1, .ref q2, .null, .null, .null, .null, .int 0, .int 0])), (q1, .inl (k 4, 4, .inr (.inr (.inr (.inr (fun _ => none)))))), (q2, .inr (2, [.ref (u3 0), .int 0, .int 0])), ((u3 0), .inl (k 0, 3, .inl (fun _ => 0))), (q5, .inr (2, [.null, .int 0, .int 0]))] := S
  refine lv_dup hx hb d_Be_init_27 rfl ?_
  refine r_backv (wi := [(q5, .inr (2, [.null, .int 0, .int 0]))]) (wr := [(h0, .inr (3, [.ref q1, .ref q2, .null, .null, .null, .null, .int 0, .int 0])), (q1, .inl (k 4, 4, .inr (.inr (.inr (.inr (fun _ => none)))))), (q2, .inr (2, [.ref (u3 0), .int 0, .int 0])), ((u3 0), .inl (k 0, 3, .inl (fun _ => 0)))]) S hA [4] [0, 1, 2, 3] rfl rfl (by decide) (by decide) (va_runI (As := []) (rest := [.ref q5, .ref h0]) ⟨hx, hb, C.2.2.1, C.2.2.2.1, C.2.2.2.2.1⟩ (k_Wh_init l G k q5 _) (k_ctor (n := 0) C wc_Wh_init rfl rfl wz_Wh wm_Be_17 wn_Wh_init rfl (by decide +kernel) ⟨(Nat.le_of_ble_eq_true rfl), (Nat.le_of_ble_eq_true rfl)⟩) (pr_now K S [4] (by decide) rfl) rfl rfl hl.1 rfl (lv_room (Nat.le_of_ble_eq_true rfl)) d_Be_init_28 ⟨(Nat.le_of_ble_eq_true rfl), (Nat.le_of_ble_eq_true rfl)⟩) (fun u6 H locs hw7 S => ?_)
  have S : Sw G A s.heap _ _ [(h0, .inr (3, [.ref q1, .ref q2, .null, .null, .null, .null, .int 0, .int 0])), (q1, .inl (k 4, 4, .inr (.inr (.inr (.inr (fun _ => none)))))), (q2, .inr (2, [.ref (u3 0), .int 0, .int 0])), ((u3 0), .inl (k 0, 3, .inl (fun _ => 0))), (q5, .inr (2, [.ref (u6 0), .int 0, .int 0])), ((u6 0), .inl (k 0, 3, .inl (fun _ => 0)))] := S
  refine r_putF C K S 0 rfl rfl clOk_Be 2 (by decide) wf_Be_22 rfl rfl (ty := .object "PotentialBench$Whole") (v := .ref q5) (by decide +kernel) rfl rfl (Nat.le_of_ble_eq_true rfl) (fs' := [.ref q1, .ref q2, .ref q5, .null, .null, .null, .int 0, .int 0]) (ws' := [(h0, .inr (3, [.ref q1, .ref q2, .ref q5, .null, .null, .null, .int 0, .int 0])), (q1, .inl (k 4, 4, .inr (.inr (.inr (.inr (fun _ => none)))))), (q2, .inr (2, [.ref (u3 0), .int 0, .int 0])), ((u3 0), .inl (k 0, 3, .inl (fun _ => 0))), (q5, .inr (2, [.ref (u6 0), .int 0, .int 0])), ((u6 0), .inl (k 0, 3, .inl (fun _ => 0)))]) rfl rfl d_Be_init_31 (fun H locs S => ?_)
  refine lv_aload_n hx hb d_Be_init_34 rfl (lv_at hl 0 rfl) ?_
  refine r_new C K S hA 2 rfl clOk_Wh wl_Be_9 wi_Wh wz_Wh t_Wh k_Wh (fs := [.null, .int 0, .int 0]) df_Wh (Nat.le_of_ble_eq_true rfl) (Nat.le_of_ble_eq_true rfl) d_Be_init_35 (fun q8 H S => ?_)
  have S : Sw G A s.heap _ _ [(h0, .inr (3, [.ref q1, .ref q2, .ref q5, .null, .null, .null, .int 0, .int 0])), (q1, .inl (k 4, 4, .inr (.inr (.inr (.inr (fun _ => none)))))), (q2, .inr (2, [.ref (u3 0), .int 0, .int 0])), ((u3 0), .inl (k 0, 3, .inl (fun _ => 0))), (q5, .inr (2, [.ref (u6 0), .int 0, .int 0])), ((u6 0), .inl (k 0, 3, .inl (fun _ => 0))), (q8, .inr (2, [.null, .int 0, .int 0]))] := S
  refine lv_dup hx hb d_Be_init_38 rfl ?_
  refine r_backv (wi := [(q8, .inr (2, [.null, .int 0, .int 0]))]) (wr := [(h0, .inr (3, [.ref q1, .ref q2, .ref q5, .null, .null, .null, .int 0, .int 0])), (q1, .inl (k 4, 4, .inr (.inr (.inr (.inr (fun _ => none)))))), (q2, .inr (2, [.ref (u3 0), .int 0, .int 0])), ((u3 0), .inl (k 0, 3, .inl (fun _ => 0))), (q5, .inr (2, [.ref (u6 0), .int 0, .int 0])), ((u6 0), .inl (k 0, 3, .inl (fun _ => 0)))]) S hA [6] [0, 1, 2, 3, 4, 5] rfl rfl (by decide) (by decide) (va_runI (As := []) (rest := [.ref q8, .ref h0]) ⟨hx, hb, C.2.2.1, C.2.2.2.1, C.2.2.2.2.1⟩ (k_Wh_init l G k q8 _) (k_ctor (n := 0) C wc_Wh_init rfl rfl wz_Wh wm_Be_17 wn_Wh_init rfl (by decide +kernel) ⟨(Nat.le_of_ble_eq_true rfl), (Nat.le_of_ble_eq_true rfl)⟩) (pr_now K S [6] (by decide) rfl) rfl rfl hl.1 rfl (lv_room (Nat.le_of_ble_eq_true rfl)) d_Be_init_39 ⟨(Nat.le_of_ble_eq_true rfl), (Nat.le_of_ble_eq_true rfl)⟩) (fun u9 H locs hw10 S => ?_)
  have S : Sw G A s.heap _ _ [(h0, .inr (3, [.ref q1, .ref q2, .ref q5, .null, .null, .null, .int 0, .int 0])), (q1, .inl (k 4, 4, .inr (.inr (.inr (.inr (fun _ => none)))))), (q2, .inr (2, [.ref (u3 0), .int 0, .int 0])), ((u3 0), .inl (k 0, 3, .inl (fun _ => 0))), (q5, .inr (2, [.ref (u6 0), .int 0, .int 0])), ((u6 0), .inl (k 0, 3, .inl (fun _ => 0))), (q8, .inr (2, [.ref (u9 0), .int 0, .int 0])), ((u9 0), .inl (k 0, 3, .inl (fun _ => 0)))] := S
  refine r_putF C K S 0 rfl rfl clOk_Be 3 (by decide) wf_Be_25 rfl rfl (ty := .object "PotentialBench$Whole") (v := .ref q8) (by decide +kernel) rfl rfl (Nat.le_of_ble_eq_true rfl) (fs' := [.ref q1, .ref q2, .ref q5, .ref q8, .null, .null, .int 0, .int 0]) (ws' := [(h0, .inr (3, [.ref q1, .ref q2, .ref q5, .ref q8, .null, .null, .int 0, .int 0])), (q1, .inl (k 4, 4, .inr (.inr (.inr (.inr (fun _ => none)))))), (q2, .inr (2, [.ref (u3 0), .int 0, .int 0])), ((u3 0), .inl (k 0, 3, .inl (fun _ => 0))), (q5, .inr (2, [.ref (u6 0), .int 0, .int 0])), ((u6 0), .inl (k 0, 3, .inl (fun _ => 0))), (q8, .inr (2, [.ref (u9 0), .int 0, .int 0])), ((u9 0), .inl (k 0, 3, .inl (fun _ => 0)))]) rfl rfl d_Be_init_42 (fun H locs S => ?_)
  refine lv_aload_n hx hb d_Be_init_45 rfl (lv_at hl 0 rfl) ?_
  refine r_new C K S hA 2 rfl clOk_Wh wl_Be_9 wi_Wh wz_Wh t_Wh k_Wh (fs := [.null, .int 0, .int 0]) df_Wh (Nat.le_of_ble_eq_true rfl) (Nat.le_of_ble_eq_true rfl) d_Be_init_46 (fun q11 H S => ?_)
  have S : Sw G A s.heap _ _ [(h0, .inr (3, [.ref q1, .ref q2, .ref q5, .ref q8, .null, .null, .int 0, .int 0])), (q1, .inl (k 4, 4, .inr (.inr (.inr (.inr (fun _ => none)))))), (q2, .inr (2, [.ref (u3 0), .int 0, .int 0])), ((u3 0), .inl (k 0, 3, .inl (fun _ => 0))), (q5, .inr (2, [.ref (u6 0), .int 0, .int 0])), ((u6 0), .inl (k 0, 3, .inl (fun _ => 0))), (q8, .inr (2, [.ref (u9 0), .int 0, .int 0])), ((u9 0), .inl (k 0, 3, .inl (fun _ => 0))), (q11, .inr (2, [.null, .int 0, .int 0]))] := S
  refine lv_dup hx hb d_Be_init_49 rfl ?_
  refine r_backv (wi := [(q11, .inr (2, [.null, .int 0, .int 0]))]) (wr := [(h0, .inr (3, [.ref q1, .ref q2, .ref q5, .ref q8, .null, .null, .int 0, .int 0])), (q1, .inl (k 4, 4, .inr (.inr (.inr (.inr (fun _ => none)))))), (q2, .inr (2, [.ref (u3 0), .int 0, .int 0])), ((u3 0), .inl (k 0, 3, .inl (fun _ => 0))), (q5, .inr (2, [.ref (u6 0), .int 0, .int 0])), ((u6 0), .inl (k 0, 3, .inl (fun _ => 0))), (q8, .inr (2, [.ref (u9 0), .int 0, .int 0])), ((u9 0), .inl (k 0, 3, .inl (fun _ => 0)))]) S hA [8] [0, 1, 2, 3, 4, 5, 6, 7] rfl rfl (by decide) (by decide) (va_runI (As := []) (rest := [.ref q11, .ref h0]) ⟨hx, hb, C.2.2.1, C.2.2.2.1, C.2.2.2.2.1⟩ (k_Wh_init l G k q11 _) (k_ctor (n := 0) C wc_Wh_init rfl rfl wz_Wh wm_Be_17 wn_Wh_init rfl (by decide +kernel) ⟨(Nat.le_of_ble_eq_true rfl), (Nat.le_of_ble_eq_true rfl)⟩) (pr_now K S [8] (by decide) rfl) rfl rfl hl.1 rfl (lv_room (Nat.le_of_ble_eq_true rfl)) d_Be_init_50 ⟨(Nat.le_of_ble_eq_true rfl), (Nat.le_of_ble_eq_true rfl)⟩) (fun u12 H locs hw13 S => ?_)
  have S : Sw G A s.heap _ _ [(h0, .inr (3, [.ref q1, .ref q2, .ref q5, .ref q8, .null, .null, .int 0, .int 0])), (q1, .inl (k 4, 4, .inr (.inr (.inr (.inr (fun _ => none)))))), (q2, .inr (2, [.ref (u3 0), .int 0, .int 0])), ((u3 0), .inl (k 0, 3, .inl (fun _ => 0))), (q5, .inr (2, [.ref (u6 0), .int 0, .int 0])), ((u6 0), .inl (k 0, 3, .inl (fun _ => 0))), (q8, .inr (2, [.ref (u9 0), .int 0, .int 0])), ((u9 0), .inl (k 0, 3, .inl (fun _ => 0))), (q11, .inr (2, [.ref (u12 0), .int 0, .int 0])), ((u12 0), .inl (k 0, 3, .inl (fun _ => 0)))] := S
  refine r_putF C K S 0 rfl rfl clOk_Be 4 (by decide) wf_Be_28 rfl rfl (ty := .object "PotentialBench$Whole") (v := .ref q11) (by decide +kernel) rfl rfl (Nat.le_of_ble_eq_true rfl) (fs' := [.ref q1, .ref q2, .ref q5, .ref q8, .ref q11, .null, .int 0, .int 0]) (ws' := [(h0, .inr (3, [.ref q1, .ref q2, .ref q5, .ref q8, .ref q11, .null, .int 0, .int 0])), (q1, .inl (k 4, 4, .inr (.inr (.inr (.inr (fun _ => none)))))), (q2, .inr (2, [.ref (u3 0), .int 0, .int 0])), ((u3 0), .inl (k 0, 3, .inl (fun _ => 0))), (q5, .inr (2, [.ref (u6 0), .int 0, .int 0])), ((u6 0), .inl (k 0, 3, .inl (fun _ => 0))), (q8, .inr (2, [.ref (u9 0), .int 0, .int 0])), ((u9 0), .inl (k 0, 3, .inl (fun _ => 0))), (q11, .inr (2, [.ref (u12 0), .int 0, .int 0])), ((u12 0), .inl (k 0, 3, .inl (fun _ => 0)))]) rfl rfl d_Be_init_53 (fun H locs S => ?_)
  refine lv_aload_n hx hb d_Be_init_56 rfl (lv_at hl 0 rfl) ?_
  refine r_new C K S hA 2 rfl clOk_Wh wl_Be_9 wi_Wh wz_Wh t_Wh k_Wh (fs := [.null, .int 0, .int 0]) df_Wh (Nat.le_of_ble_eq_true rfl) (Nat.le_of_ble_eq_true rfl) d_Be_init_57 (fun q14 H S => ?_)
  have S : Sw G A s.heap _ _ [(h0, .inr (3, [.ref q1, .ref q2, .ref q5, .ref q8, .ref q11, .null, .int 0, .int 0])), (q1, .inl (k 4, 4, .inr (.inr (.inr (.inr (fun _ => none)))))), (q2, .inr (2, [.ref (u3 0), .int 0, .int 0])), ((u3 0), .inl (k 0, 3, .inl (fun _ => 0))), (q5, .inr (2, [.ref (u6 0), .int 0, .int 0])), ((u6 0), .inl (k 0, 3, .inl (fun _ => 0))), (q8, .inr (2, [.ref (u9 0), .int 0, .int 0])), ((u9 0), .inl (k 0, 3, .inl (fun _ => 0))), (q11, .inr (2, [.ref (u12 0), .int 0, .int 0])), ((u12 0), .inl (k 0, 3, .inl (fun _ => 0))), (q14, .inr (2, [.null, .int 0, .int 0]))] := S
  refine lv_dup hx hb d_Be_init_60 rfl ?_
  refine r_backv (wi := [(q14, .inr (2, [.null, .int 0, .int 0]))]) (wr := [(h0, .inr (3, [.ref q1, .ref q2, .ref q5, .ref q8, .ref q11, .null, .int 0, .int 0])), (q1, .inl (k 4, 4, .inr (.inr (.inr (.inr (fun _ => none)))))), (q2, .inr (2, [.ref (u3 0), .int 0, .int 0])), ((u3 0), .inl (k 0, 3, .inl (fun _ => 0))), (q5, .inr (2, [.ref (u6 0), .int 0, .int 0])), ((u6 0), .inl (k 0, 3, .inl (fun _ => 0))), (q8, .inr (2, [.ref (u9 0), .int 0, .int 0])), ((u9 0), .inl (k 0, 3, .inl (fun _ => 0))), (q11, .inr (2, [.ref (u12 0), .int 0, .int 0])), ((u12 0), .inl (k 0, 3, .inl (fun _ => 0)))]) S hA [10] [0, 1, 2, 3, 4, 5, 6, 7, 8, 9] rfl rfl (by decide) (by decide) (va_runI (As := []) (rest := [.ref q14, .ref h0]) ⟨hx, hb, C.2.2.1, C.2.2.2.1, C.2.2.2.2.1⟩ (k_Wh_init l G k q14 _) (k_ctor (n := 0) C wc_Wh_init rfl rfl wz_Wh wm_Be_17 wn_Wh_init rfl (by decide +kernel) ⟨(Nat.le_of_ble_eq_true rfl), (Nat.le_of_ble_eq_true rfl)⟩) (pr_now K S [10] (by decide) rfl) rfl rfl hl.1 rfl (lv_room (Nat.le_of_ble_eq_true rfl)) d_Be_init_61 ⟨(Nat.le_of_ble_eq_true rfl), (Nat.le_of_ble_eq_true rfl)⟩) (fun u15 H locs hw16 S => ?_)
  have S : Sw G A s.heap _ _ [(h0, .inr (3, [.ref q1, .ref q2, .ref q5, .ref q8, .ref q11, .null, .int 0, .int 0])), (q1, .inl (k 4, 4, .inr (.inr (.inr (.inr (fun _ => none)))))), (q2, .inr (2, [.ref (u3 0), .int 0, .int 0])), ((u3 0), .inl (k 0, 3, .inl (fun _ => 0))), (q5, .inr (2, [.ref (u6 0), .int 0, .int 0])), ((u6 0), .inl (k 0, 3, .inl (fun _ => 0))), (q8, .inr (2, [.ref (u9 0), .int 0, .int 0])), ((u9 0), .inl (k 0, 3, .inl (fun _ => 0))), (q11, .inr (2, [.ref (u12 0), .int 0, .int 0])), ((u12 0), .inl (k 0, 3, .inl (fun _ => 0))), (q14, .inr (2, [.ref (u15 0), .int 0, .int 0])), ((u15 0), .inl (k 0, 3, .inl (fun _ => 0)))] := S
  refine r_putF C K S 0 rfl rfl clOk_Be 5 (by decide) wf_Be_31 rfl rfl (ty := .object "PotentialBench$Whole") (v := .ref q14) (by decide +kernel) rfl rfl (Nat.le_of_ble_eq_true rfl) (fs' := [.ref q1, .ref q2, .ref q5, .ref q8, .ref q11, .ref q14, .int 0, .int 0]) (ws' := [(h0, .inr (3, [.ref q1, .ref q2, .ref q5, .ref q8, .ref q11, .ref q14, .int 0, .int 0])), (q1, .inl (k 4, 4, .inr (.inr (.inr (.inr (fun _ => none)))))), (q2, .inr (2, [.ref (u3 0), .int 0, .int 0])), ((u3 0), .inl (k 0, 3, .inl (fun _ => 0))), (q5, .inr (2, [.ref (u6 0), .int 0, .int 0])), ((u6 0), .inl (k 0, 3, .inl (fun _ => 0))), (q8, .inr (2, [.ref (u9 0), .int 0, .int 0])), ((u9 0), .inl (k 0, 3, .inl (fun _ => 0))), (q11, .inr (2, [.ref (u12 0), .int 0, .int 0])), ((u12 0), .inl (k 0, 3, .inl (fun _ => 0))), (q14, .inr (2, [.ref (u15 0), .int 0, .int 0])), ((u15 0), .inl (k 0, 3, .inl (fun _ => 0)))]) rfl rfl d_Be_init_64 (fun H locs S => ?_)
  refine lv_iconst (v := 0) hx hb d_Be_init_67 (by decide) ?_
  refine lv_istore_n (lv' := [(1, .int 0), (0, .ref h0)]) hx hb d_Be_init_68 rfl hl (by decide) rfl (fun ls hl => ?_)
  refine lv_iload_n hx hb d_Be_init_69 rfl (lv_at hl 0 rfl) ?_
  refine lv_iconst (v := 3) hx hb d_Be_init_70 (by decide) ?_
  refine lv_icmp_gt (tgt := 93) hx hb d_Be_init_71 (by decide) (fun hq => absurd hq (by decide)) (fun _ => ?_)
  refine lv_aload_n hx hb d_Be_init_74 rfl (lv_at hl 1 rfl) ?_
  refine r_get C K S 0 rfl rfl clOk_Be 0 (by decide) wf_Be_11 (v := .ref q1) rfl d_Be_init_75 ?_
  refine lv_iload_n hx hb d_Be_init_78 rfl (lv_at hl 0 rfl) ?_
  refine r_new C K S hA 2 rfl clOk_Wh wl_Be_9 wi_Wh wz_Wh t_Wh k_Wh (fs := [.null, .int 0, .int 0]) df_Wh (Nat.le_of_ble_eq_true rfl) (Nat.le_of_ble_eq_true rfl) d_Be_init_79 (fun q17 H S => ?_)
  have S : Sw G A s.heap _ _ [(h0, .inr (3, [.ref q1, .ref q2, .ref q5, .ref q8, .ref q11, .ref q14, .int 0, .int 0])), (q1, .inl (k 4, 4, .inr (.inr (.inr (.inr (fun _ => none)))))), (q2, .inr (2, [.ref (u3 0), .int 0, .int 0])), ((u3 0), .inl (k 0, 3, .inl (fun _ => 0))), (q5, .inr (2, [.ref (u6 0), .int 0, .int 0])), ((u6 0), .inl (k 0, 3, .inl (fun _ => 0))), (q8, .inr (2, [.ref (u9 0), .int 0, .int 0])), ((u9 0), .inl (k 0, 3, .inl (fun _ => 0))), (q11, .inr (2, [.ref (u12 0), .int 0, .int 0])), ((u12 0), .inl (k 0, 3, .inl (fun _ => 0))), (q14, .inr (2, [.ref (u15 0), .int 0, .int 0])), ((u15 0), .inl (k 0, 3, .inl (fun _ => 0))), (q17, .inr (2, [.null, .int 0, .int 0]))] := S
  refine lv_dup hx hb d_Be_init_82 rfl ?_
  refine r_backv (wi := [(q17, .inr (2, [.null, .int 0, .int 0]))]) (wr := [(h0, .inr (3, [.ref q1, .ref q2, .ref q5, .ref q8, .ref q11, .ref q14, .int 0, .int 0])), (q1, .inl (k 4, 4, .inr (.inr (.inr (.inr (fun _ => none)))))), (q2, .inr (2, [.ref (u3 0), .int 0, .int 0])), ((u3 0), .inl (k 0, 3, .inl (fun _ => 0))), (q5, .inr (2, [.ref (u6 0), .int 0, .int 0])), ((u6 0), .inl (k 0, 3, .inl (fun _ => 0))), (q8, .inr (2, [.ref (u9 0), .int 0, .int 0])), ((u9 0), .inl (k 0, 3, .inl (fun _ => 0))), (q11, .inr (2, [.ref (u12 0), .int 0, .int 0])), ((u12 0), .inl (k 0, 3, .inl (fun _ => 0))), (q14, .inr (2, [.ref (u15 0), .int 0, .int 0])), ((u15 0), .inl (k 0, 3, .inl (fun _ => 0)))]) S hA [12] [0, 1, 2, 3, 4, 5, 6, 7, 8, 9, 10, 11] rfl rfl (by decide) (by decide) (va_runI (As := []) (rest := [.ref q17, .int 0, .ref q1]) ⟨hx, hb, C.2.2.1, C.2.2.2.1, C.2.2.2.2.1⟩ (k_Wh_init l G k q17 _) (k_ctor (n := 0) C wc_Wh_init rfl rfl wz_Wh wm_Be_17 wn_Wh_init rfl (by decide +kernel) ⟨(Nat.le_of_ble_eq_true rfl), (Nat.le_of_ble_eq_true rfl)⟩) (pr_now K S [12] (by decide) rfl) rfl rfl hl.1 rfl (lv_room (Nat.le_of_ble_eq_true rfl)) d_Be_init_83 ⟨(Nat.le_of_ble_eq_true rfl), (Nat.le_of_ble_eq_true rfl)⟩) (fun u18 H locs hw19 S => ?_)
  have S : Sw G A s.heap _ _ [(h0, .inr (3, [.ref q1, .ref q2, .ref q5, .ref q8, .ref q11, .ref q14, .int 0, .int 0])), (q1, .inl (k 4, 4, .inr (.inr (.inr (.inr (fun _ => none)))))), (q2, .inr (2, [.ref (u3 0), .int 0, .int 0])), ((u3 0), .inl (k 0, 3, .inl (fun _ => 0))), (q5, .inr (2, [.ref (u6 0), .int 0, .int 0])), ((u6 0), .inl (k 0, 3, .inl (fun _ => 0))), (q8, .inr (2, [.ref (u9 0), .int 0, .int 0])), ((u9 0), .inl (k 0, 3, .inl (fun _ => 0))), (q11, .inr (2, [.ref (u12 0), .int 0, .int 0])), ((u12 0), .inl (k 0, 3, .inl (fun _ => 0))), (q14, .inr (2, [.ref (u15 0), .int 0, .int 0])), ((u15 0), .inl (k 0, 3, .inl (fun _ => 0))), (q17, .inr (2, [.ref (u18 0), .int 0, .int 0])), ((u18 0), .inl (k 0, 3, .inl (fun _ => 0)))] := S
  refine r_aast C K S 1 4 12 2 rfl rfl rfl rfl (i := 0) (by unfold vp_in; decide) (f' := va_up (fun _ => none) 0 (some q17)) (ws' := [(h0, .inr (3, [.ref q1, .ref q2, .ref q5, .ref q8, .ref q11, .ref q14, .int 0, .int 0])), (q1, .inl (k 4, 4, .inr (.inr (.inr (.inr (va_up (fun _ => none) 0 (some q17))))))), (q2, .inr (2, [.ref (u3 0), .int 0, .int 0])), ((u3 0), .inl (k 0, 3, .inl (fun _ => 0))), (q5, .inr (2, [.ref (u6 0), .int 0, .int 0])), ((u6 0), .inl (k 0, 3, .inl (fun _ => 0))), (q8, .inr (2, [.ref (u9 0), .int 0, .int 0])), ((u9 0), .inl (k 0, 3, .inl (fun _ => 0))), (q11, .inr (2, [.ref (u12 0), .int 0, .int 0])), ((u12 0), .inl (k 0, 3, .inl (fun _ => 0))), (q14, .inr (2, [.ref (u15 0), .int 0, .int 0])), ((u15 0), .inl (k 0, 3, .inl (fun _ => 0))), (q17, .inr (2, [.ref (u18 0), .int 0, .int 0])), ((u18 0), .inl (k 0, 3, .inl (fun _ => 0)))]) rfl rfl d_Be_init_86 (fun H locs S => ?_)
  refine lv_iinc (v := 1) (lv' := [(1, .int 1), (0, .ref h0)]) hx hb d_Be_init_87 hl (k := 0) rfl (by decide) (by decide) rfl (fun ls hl => ?_)
  refine lv_goto (tgt := 69) hx hb d_Be_init_90 (by decide) ?_
  refine lv_iload_n hx hb d_Be_init_69 rfl (lv_at hl 0 rfl) ?_
  refine lv_iconst (v := 3) hx hb d_Be_init_70 (by decide) ?_
  refine lv_icmp_gt (tgt := 93) hx hb d_Be_init_71 (by decide) (fun hq => absurd hq (by decide)) (fun _ => ?_)
  refine lv_aload_n hx hb d_Be_init_74 rfl (lv_at hl 1 rfl) ?_
  refine r_get C K S 0 rfl rfl clOk_Be 0 (by decide) wf_Be_11 (v := .ref q1) rfl d_Be_init_75 ?_
  refine lv_iload_n hx hb d_Be_init_78 rfl (lv_at hl 0 rfl) ?_
  refine r_new C K S hA 2 rfl clOk_Wh wl_Be_9 wi_Wh wz_Wh t_Wh k_Wh (fs := [.null, .int 0, .int 0]) df_Wh (Nat.le_of_ble_eq_true rfl) (Nat.le_of_ble_eq_true rfl) d_Be_init_79 (fun q20 H S => ?_)
  have S : Sw G A s.heap _ _ [(h0, .inr (3, [.ref q1, .ref q2, .ref q5, .ref q8, .ref q11, .ref q14, .int 0, .int 0])), (q1, .inl (k 4, 4, .inr (.inr (.inr (.inr (va_up (fun _ => none) 0 (some q17))))))), (q2, .inr (2, [.ref (u3 0), .int 0, .int 0])), ((u3 0), .inl (k 0, 3, .inl (fun _ => 0))), (q5, .inr (2, [.ref (u6 0), .int 0, .int 0])), ((u6 0), .inl (k 0, 3, .inl (fun _ => 0))), (q8, .inr (2, [.ref (u9 0), .int 0, .int 0])), ((u9 0), .inl (k 0, 3, .inl (fun _ => 0))), (q11, .inr (2, [.ref (u12 0), .int 0, .int 0])), ((u12 0), .inl (k 0, 3, .inl (fun _ => 0))), (q14, .inr (2, [.ref (u15 0), .int 0, .int 0])), ((u15 0), .inl (k 0, 3, .inl (fun _ => 0))), (q17, .inr (2, [.ref (u18 0), .int 0, .int 0])), ((u18 0), .inl (k 0, 3, .inl (fun _ => 0))), (q20, .inr (2, [.null, .int 0, .int 0]))] := S
  refine lv_dup hx hb d_Be_init_82 rfl ?_
  refine r_backv (wi := [(q20, .inr (2, [.null, .int 0, .int 0]))]) (wr := [(h0, .inr (3, [.ref q1, .ref q2, .ref q5, .ref q8, .ref q11, .ref q14, .int 0, .int 0])), (q1, .inl (k 4, 4, .inr (.inr (.inr (.inr (va_up (fun _ => none) 0 (some q17))))))), (q2, .inr (2, [.ref (u3 0), .int 0, .int 0])), ((u3 0), .inl (k 0, 3, .inl (fun _ => 0))), (q5, .inr (2, [.ref (u6 0), .int 0, .int 0])), ((u6 0), .inl (k 0, 3, .inl (fun _ => 0))), (q8, .inr (2, [.ref (u9 0), .int 0, .int 0])), ((u9 0), .inl (k 0, 3, .inl (fun _ => 0))), (q11, .inr (2, [.ref (u12 0), .int 0, .int 0])), ((u12 0), .inl (k 0, 3, .inl (fun _ => 0))), (q14, .inr (2, [.ref (u15 0), .int 0, .int 0])), ((u15 0), .inl (k 0, 3, .inl (fun _ => 0))), (q17, .inr (2, [.ref (u18 0), .int 0, .int 0])), ((u18 0), .inl (k 0, 3, .inl (fun _ => 0)))]) S hA [14] [0, 1, 2, 3, 4, 5, 6, 7, 8, 9, 10, 11, 12, 13] rfl rfl (by decide) (by decide) (va_runI (As := []) (rest := [.ref q20, .int 1, .ref q1]) ⟨hx, hb, C.2.2.1, C.2.2.2.1, C.2.2.2.2.1⟩ (k_Wh_init l G k q20 _) (k_ctor (n := 0) C wc_Wh_init rfl rfl wz_Wh wm_Be_17 wn_Wh_init rfl (by decide +kernel) ⟨(Nat.le_of_ble_eq_true rfl), (Nat.le_of_ble_eq_true rfl)⟩) (pr_now K S [14] (by decide) rfl) rfl rfl hl.1 rfl (lv_room (Nat.le_of_ble_eq_true rfl)) d_Be_init_83 ⟨(Nat.le_of_ble_eq_true rfl), (Nat.le_of_ble_eq_true rfl)⟩) (fun u21 H locs hw22 S => ?_)
  have S : Sw G A s.heap _ _ [(h0, .inr (3, [.ref q1, .ref q2, .ref q5, .ref q8, .ref q11, .ref q14, .int 0, .int 0])), (q1, .inl (k 4, 4, .inr (.inr (.inr (.inr (va_up (fun _ => none) 0 (some q17))))))), (q2, .inr (2, [.ref (u3 0), .int 0, .int 0])), ((u3 0), .inl (k 0, 3, .inl (fun _ => 0))), (q5, .inr (2, [.ref (u6 0), .int 0, .int 0])), ((u6 0), .inl (k 0, 3, .inl (fun _ => 0))), (q8, .inr (2, [.ref (u9 0), .int 0, .int 0])), ((u9 0), .inl (k 0, 3, .inl (fun _ => 0))), (q11, .inr (2, [.ref (u12 0), .int 0, .int 0])), ((u12 0), .inl (k 0, 3, .inl (fun _ => 0))), (q14, .inr (2, [.ref (u15 0), .int 0, .int 0])), ((u15 0), .inl (k 0, 3, .inl (fun _ => 0))), (q17, .inr (2, [.ref (u18 0), .int 0, .int 0])), ((u18 0), .inl (k 0, 3, .inl (fun _ => 0))), (q20, .inr (2, [.ref (u21 0), .int 0, .int 0])), ((u21 0), .inl (k 0, 3, .inl (fun _ => 0)))] := S
  refine r_aast C K S 1 4 14 2 rfl rfl rfl rfl (i := 1) (by unfold vp_in; decide) (f' := va_up (va_up (fun _ => none) 0 (some q17)) 1 (some q20)) (ws' := [(h0, .inr (3, [.ref q1, .ref q2, .ref q5, .ref q8, .ref q11, .ref q14, .int 0, .int 0])), (q1, .inl (k 4, 4, .inr (.inr (.inr (.inr (va_up (va_up (fun _ => none) 0 (some q17)) 1 (some q20))))))), (q2, .inr (2, [.ref (u3 0), .int 0, .int 0])), ((u3 0), .inl (k 0, 3, .inl (fun _ => 0))), (q5, .inr (2, [.ref (u6 0), .int 0, .int 0])), ((u6 0), .inl (k 0, 3, .inl (fun _ => 0))), (q8, .inr (2, [.ref (u9 0), .int 0, .int 0])), ((u9 0), .inl (k 0, 3, .inl (fun _ => 0))), (q11, .inr (2, [.ref (u12 0), .int 0, .int 0])), ((u12 0), .inl (k 0, 3, .inl (fun _ => 0))), (q14, .inr (2, [.ref (u15 0), .int 0, .int 0])), ((u15 0), .inl (k 0, 3, .inl (fun _ => 0))), (q17, .inr (2, [.ref (u18 0), .int 0, .int 0])), ((u18 0), .inl (k 0, 3, .inl (fun _ => 0))), (q20, .inr (2, [.ref (u21 0), .int 0, .int 0])), ((u21 0), .inl (k 0, 3, .inl (fun _ => 0)))]) rfl rfl d_Be_init_86 (fun H locs S => ?_)
  refine lv_iinc (v := 2) (lv' := [(1, .int 2), (0, .ref h0)]) hx hb d_Be_init_87 hl (k := 0) rfl (by decide) (by decide) rfl (fun ls hl => ?_)
  refine lv_goto (tgt := 69) hx hb d_Be_init_90 (by decide) ?_
  refine lv_iload_n hx hb d_Be_init_69 rfl (lv_at hl 0 rfl) ?_
  refine lv_iconst (v := 3) hx hb d_Be_init_70 (by decide) ?_
  refine lv_icmp_gt (tgt := 93) hx hb d_Be_init_71 (by decide) (fun hq => absurd hq (by decide)) (fun _ => ?_)
  refine lv_aload_n hx hb d_Be_init_74 rfl (lv_at hl 1 rfl) ?_
  refine r_get C K S 0 rfl rfl clOk_Be 0 (by decide) wf_Be_11 (v := .ref q1) rfl d_Be_init_75 ?_
  refine lv_iload_n hx hb d_Be_init_78 rfl (lv_at hl 0 rfl) ?_
  refine r_new C K S hA 2 rfl clOk_Wh wl_Be_9 wi_Wh wz_Wh t_Wh k_Wh (fs := [.null, .int 0, .int 0]) df_Wh (Nat.le_of_ble_eq_true rfl) (Nat.le_of_ble_eq_true rfl) d_Be_init_79 (fun q23 H S => ?_)
  have S : Sw G A s.heap _ _ [(h0, .inr (3, [.ref q1, .ref q2, .ref q5, .ref q8, .ref q11, .ref q14, .int 0, .int 0])), (q1, .inl (k 4, 4, .inr (.inr (.inr (.inr (va_up (va_up (fun _ => none) 0 (some q17)) 1 (some q20))))))), (q2, .inr (2, [.ref (u3 0), .int 0, .int 0])), ((u3 0), .inl (k 0, 3, .inl (fun _ => 0))), (q5, .inr (2, [.ref (u6 0), .int 0, .int 0])), ((u6 0), .inl (k 0, 3, .inl (fun _ => 0))), (q8, .inr (2, [.ref (u9 0), .int 0, .int 0])), ((u9 0), .inl (k 0, 3, .inl (fun _ => 0))), (q11, .inr (2, [.ref (u12 0), .int 0, .int 0])), ((u12 0), .inl (k 0, 3, .inl (fun _ => 0))), (q14, .inr (2, [.ref (u15 0), .int 0, .int 0])), ((u15 0), .inl (k 0, 3, .inl (fun _ => 0))), (q17, .inr (2, [.ref (u18 0), .int 0, .int 0])), ((u18 0), .inl (k 0, 3, .inl (fun _ => 0))), (q20, .inr (2, [.ref (u21 0), .int 0, .int 0])), ((u21 0), .inl (k 0, 3, .inl (fun _ => 0))), (q23, .inr (2, [.null, .int 0, .int 0]))] := S
  refine lv_dup hx hb d_Be_init_82 rfl ?_
  refine r_backv (wi := [(q23, .inr (2, [.null, .int 0, .int 0]))]) (wr := [(h0, .inr (3, [.ref q1, .ref q2, .ref q5, .ref q8, .ref q11, .ref q14, .int 0, .int 0])), (q1, .inl (k 4, 4, .inr (.inr (.inr (.inr (va_up (va_up (fun _ => none) 0 (some q17)) 1 (some q20))))))), (q2, .inr (2, [.ref (u3 0), .int 0, .int 0])), ((u3 0), .inl (k 0, 3, .inl (fun _ => 0))), (q5, .inr (2, [.ref (u6 0), .int 0, .int 0])), ((u6 0), .inl (k 0, 3, .inl (fun _ => 0))), (q8, .inr (2, [.ref (u9 0), .int 0, .int 0])), ((u9 0), .inl (k 0, 3, .inl (fun _ => 0))), (q11, .inr (2, [.ref (u12 0), .int 0, .int 0])), ((u12 0), .inl (k 0, 3, .inl (fun _ => 0))), (q14, .inr (2, [.ref (u15 0), .int 0, .int 0])), ((u15 0), .inl (k 0, 3, .inl (fun _ => 0))), (q17, .inr (2, [.ref (u18 0), .int 0, .int 0])), ((u18 0), .inl (k 0, 3, .inl (fun _ => 0))), (q20, .inr (2, [.ref (u21 0), .int 0, .int 0])), ((u21 0), .inl (k 0, 3, .inl (fun _ => 0)))]) S hA [16] [0, 1, 2, 3, 4, 5, 6, 7, 8, 9, 10, 11, 12, 13, 14, 15] rfl rfl (by decide) (by decide) (va_runI (As := []) (rest := [.ref q23, .int 2, .ref q1]) ⟨hx, hb, C.2.2.1, C.2.2.2.1, C.2.2.2.2.1⟩ (k_Wh_init l G k q23 _) (k_ctor (n := 0) C wc_Wh_init rfl rfl wz_Wh wm_Be_17 wn_Wh_init rfl (by decide +kernel) ⟨(Nat.le_of_ble_eq_true rfl), (Nat.le_of_ble_eq_true rfl)⟩) (pr_now K S [16] (by decide) rfl) rfl rfl hl.1 rfl (lv_room (Nat.le_of_ble_eq_true rfl)) d_Be_init_83 ⟨(Nat.le_of_ble_eq_true rfl), (Nat.le_of_ble_eq_true rfl)⟩) (fun u24 H locs hw25 S => ?_)
  have S : Sw G A s.heap _ _ [(h0, .inr (3, [.ref q1, .ref q2, .ref q5, .ref q8, .ref q11, .ref q14, .int 0, .int 0])), (q1, .inl (k 4, 4, .inr (.inr (.inr (.inr (va_up (va_up (fun _ => none) 0 (some q17)) 1 (some q20))))))), (q2, .inr (2, [.ref (u3 0), .int 0, .int 0])), ((u3 0), .inl (k 0, 3, .inl (fun _ => 0))), (q5, .inr (2, [.ref (u6 0), .int 0, .int 0])), ((u6 0), .inl (k 0, 3, .inl (fun _ => 0))), (q8, .inr (2, [.ref (u9 0), .int 0, .int 0])), ((u9 0), .inl (k 0, 3, .inl (fun _ => 0))), (q11, .inr (2, [.ref (u12 0), .int 0, .int 0])), ((u12 0), .inl (k 0, 3, .inl (fun _ => 0))), (q14, .inr (2, [.ref (u15 0), .int 0, .int 0])), ((u15 0), .inl (k 0, 3, .inl (fun _ => 0))), (q17, .inr (2, [.ref (u18 0), .int 0, .int 0])), ((u18 0), .inl (k 0, 3, .inl (fun _ => 0))), (q20, .inr (2, [.ref (u21 0), .int 0, .int 0])), ((u21 0), .inl (k 0, 3, .inl (fun _ => 0))), (q23, .inr (2, [.ref (u24 0), .int 0, .int 0])), ((u24 0), .inl (k 0, 3, .inl (fun _ => 0)))] := S
  refine r_aast C K S 1 4 16 2 rfl rfl rfl rfl (i := 2) (by unfold vp_in; decide) (f' := va_up (va_up (va_up (fun _ => none) 0 (some q17)) 1 (some q20)) 2 (some q23)) (ws' := [(h0, .inr (3, [.ref q1, .ref q2, .ref q5, .ref q8, .ref q11, .ref q14, .int 0, .int 0])), (q1, .inl (k 4, 4, .inr (.inr (.inr (.inr (va_up (va_up (va_up (fun _ => none) 0 (some q17)) 1 (some q20)) 2 (some q23))))))), (q2, .inr (2, [.ref (u3 0), .int 0, .int 0])), ((u3 0), .inl (k 0, 3, .inl (fun _ => 0))), (q5, .inr (2, [.ref (u6 0), .int 0, .int 0])), ((u6 0), .inl (k 0, 3, .inl (fun _ => 0))), (q8, .inr (2, [.ref (u9 0), .int 0, .int 0])), ((u9 0), .inl (k 0, 3, .inl (fun _ => 0))), (q11, .inr (2, [.ref (u12 0), .int 0, .int 0])), ((u12 0), .inl (k 0, 3, .inl (fun _ => 0))), (q14, .inr (2, [.ref (u15 0), .int 0, .int 0])), ((u15 0), .inl (k 0, 3, .inl (fun _ => 0))), (q17, .inr (2, [.ref (u18 0), .int 0, .int 0])), ((u18 0), .inl (k 0, 3, .inl (fun _ => 0))), (q20, .inr (2, [.ref (u21 0), .int 0, .int 0])), ((u21 0), .inl (k 0, 3, .inl (fun _ => 0))), (q23, .inr (2, [.ref (u24 0), .int 0, .int 0])), ((u24 0), .inl (k 0, 3, .inl (fun _ => 0)))]) rfl rfl d_Be_init_86 (fun H locs S => ?_)
  refine lv_iinc (v := 3) (lv' := [(1, .int 3), (0, .ref h0)]) hx hb d_Be_init_87 hl (k := 0) rfl (by decide) (by decide) rfl (fun ls hl => ?_)
  refine lv_goto (tgt := 69) hx hb d_Be_init_90 (by decide) ?_
  refine lv_iload_n hx hb d_Be_init_69 rfl (lv_at hl 0 rfl) ?_
  refine lv_iconst (v := 3) hx hb d_Be_init_70 (by decide) ?_
  refine lv_icmp_gt (tgt := 93) hx hb d_Be_init_71 (by decide) (fun hq => absurd hq (by decide)) (fun _ => ?_)
  refine lv_aload_n hx hb d_Be_init_74 rfl (lv_at hl 1 rfl) ?_
  refine r_get C K S 0 rfl rfl clOk_Be 0 (by decide) wf_Be_11 (v := .ref q1) rfl d_Be_init_75 ?_
  refine lv_iload_n hx hb d_Be_init_78 rfl (lv_at hl 0 rfl) ?_
  refine r_new C K S hA 2 rfl clOk_Wh wl_Be_9 wi_Wh wz_Wh t_Wh k_Wh (fs := [.null, .int 0, .int 0]) df_Wh (Nat.le_of_ble_eq_true rfl) (Nat.le_of_ble_eq_true rfl) d_Be_init_79 (fun q26 H S => ?_)
  have S : Sw G A s.heap _ _ [(h0, .inr (3, [.ref q1, .ref q2, .ref q5, .ref q8, .ref q11, .ref q14, .int 0, .int 0])), (q1, .inl (k 4, 4, .inr (.inr (.inr (.inr (va_up (va_up (va_up (fun _ => none) 0 (some q17)) 1 (some q20)) 2 (some q23))))))), (q2, .inr (2, [.ref (u3 0), .int 0, .int 0])), ((u3 0), .inl (k 0, 3, .inl (fun _ => 0))), (q5, .inr (2, [.ref (u6 0), .int 0, .int 0])), ((u6 0), .inl (k 0, 3, .inl (fun _ => 0))), (q8, .inr (2, [.ref (u9 0), .int 0, .int 0])), ((u9 0), .inl (k 0, 3, .inl (fun _ => 0))), (q11, .inr (2, [.ref (u12 0), .int 0, .int 0])), ((u12 0), .inl (k 0, 3, .inl (fun _ => 0))), (q14, .inr (2, [.ref (u15 0), .int 0, .int 0])), ((u15 0), .inl (k 0, 3, .inl (fun _ => 0))), (q17, .inr (2, [.ref (u18 0), .int 0, .int 0])), ((u18 0), .inl (k 0, 3, .inl (fun _ => 0))), (q20, .inr (2, [.ref (u21 0), .int 0, .int 0])), ((u21 0), .inl (k 0, 3, .inl (fun _ => 0))), (q23, .inr (2, [.ref (u24 0), .int 0, .int 0])), ((u24 0), .inl (k 0, 3, .inl (fun _ => 0))), (q26, .inr (2, [.null, .int 0, .int 0]))] := S
  refine lv_dup hx hb d_Be_init_82 rfl ?_
  refine r_backv (wi := [(q26, .inr (2, [.null, .int 0, .int 0]))]) (wr := [(h0, .inr (3, [.ref q1, .ref q2, .ref q5, .ref q8, .ref q11, .ref q14, .int 0, .int 0])), (q1, .inl (k 4, 4, .inr (.inr (.inr (.inr (va_up (va_up (va_up (fun _ => none) 0 (some q17)) 1 (some q20)) 2 (some q23))))))), (q2, .inr (2, [.ref (u3 0), .int 0, .int 0])), ((u3 0), .inl (k 0, 3, .inl (fun _ => 0))), (q5, .inr (2, [.ref (u6 0), .int 0, .int 0])), ((u6 0), .inl (k 0, 3, .inl (fun _ => 0))), (q8, .inr (2, [.ref (u9 0), .int 0, .int 0])), ((u9 0), .inl (k 0, 3, .inl (fun _ => 0))), (q11, .inr (2, [.ref (u12 0), .int 0, .int 0])), ((u12 0), .inl (k 0, 3, .inl (fun _ => 0))), (q14, .inr (2, [.ref (u15 0), .int 0, .int 0])), ((u15 0), .inl (k 0, 3, .inl (fun _ => 0))), (q17, .inr (2, [.ref (u18 0), .int 0, .int 0])), ((u18 0), .inl (k 0, 3, .inl (fun _ => 0))), (q20, .inr (2, [.ref (u21 0), .int 0, .int 0])), ((u21 0), .inl (k 0, 3, .inl (fun _ => 0))), (q23, .inr (2, [.ref (u24 0), .int 0, .int 0])), ((u24 0), .inl (k 0, 3, .inl (fun _ => 0)))]) S hA [18] [0, 1, 2, 3, 4, 5, 6, 7, 8, 9, 10, 11, 12, 13, 14, 15, 16, 17] rfl rfl (by decide) (by decide) (va_runI (As := []) (rest := [.ref q26, .int 3, .ref q1]) ⟨hx, hb, C.2.2.1, C.2.2.2.1, C.2.2.2.2.1⟩ (k_Wh_init l G k q26 _) (k_ctor (n := 0) C wc_Wh_init rfl rfl wz_Wh wm_Be_17 wn_Wh_init rfl (by decide +kernel) ⟨(Nat.le_of_ble_eq_true rfl), (Nat.le_of_ble_eq_true rfl)⟩) (pr_now K S [18] (by decide) rfl) rfl rfl hl.1 rfl (lv_room (Nat.le_of_ble_eq_true rfl)) d_Be_init_83 ⟨(Nat.le_of_ble_eq_true rfl), (Nat.le_of_ble_eq_true rfl)⟩) (fun u27 H locs hw28 S => ?_)
  have S : Sw G A s.heap _ _ [(h0, .inr (3, [.ref q1, .ref q2, .ref q5, .ref q8, .ref q11, .ref q14, .int 0, .int 0])), (q1, .inl (k 4, 4, .inr (.inr (.inr (.inr (va_up (va_up (va_up (fun _ => none) 0 (some q17)) 1 (some q20)) 2 (some q23))))))), (q2, .inr (2, [.ref (u3 0), .int 0, .int 0])), ((u3 0), .inl (k 0, 3, .inl (fun _ => 0))), (q5, .inr (2, [.ref (u6 0), .int 0, .int 0])), ((u6 0), .inl (k 0, 3, .inl (fun _ => 0))), (q8, .inr (2, [.ref (u9 0), .int 0, .int 0])), ((u9 0), .inl (k 0, 3, .inl (fun _ => 0))), (q11, .inr (2, [.ref (u12 0), .int 0, .int 0])), ((u12 0), .inl (k 0, 3, .inl (fun _ => 0))), (q14, .inr (2, [.ref (u15 0), .int 0, .int 0])), ((u15 0), .inl (k 0, 3, .inl (fun _ => 0))), (q17, .inr (2, [.ref (u18 0), .int 0, .int 0])), ((u18 0), .inl (k 0, 3, .inl (fun _ => 0))), (q20, .inr (2, [.ref (u21 0), .int 0, .int 0])), ((u21 0), .inl (k 0, 3, .inl (fun _ => 0))), (q23, .inr (2, [.ref (u24 0), .int 0, .int 0])), ((u24 0), .inl (k 0, 3, .inl (fun _ => 0))), (q26, .inr (2, [.ref (u27 0), .int 0, .int 0])), ((u27 0), .inl (k 0, 3, .inl (fun _ => 0)))] := S
  refine r_aast C K S 1 4 18 2 rfl rfl rfl rfl (i := 3) (by unfold vp_in; decide) (f' := va_up (va_up (va_up (va_up (fun _ => none) 0 (some q17)) 1 (some q20)) 2 (some q23)) 3 (some q26)) (ws' := [(h0, .inr (3, [.ref q1, .ref q2, .ref q5, .ref q8, .ref q11, .ref q14, .int 0, .int 0])), (q1, .inl (k 4, 4, .inr (.inr (.inr (.inr (va_up (va_up (va_up (va_up (fun _ => none) 0 (some q17)) 1 (some q20)) 2 (some q23)) 3 (some q26))))))), (q2, .inr (2, [.ref (u3 0), .int 0, .int 0])), ((u3 0), .inl (k 0, 3, .inl (fun _ => 0))), (q5, .inr (2, [.ref (u6 0), .int 0, .int 0])), ((u6 0), .inl (k 0, 3, .inl (fun _ => 0))), (q8, .inr (2, [.ref (u9 0), .int 0, .int 0])), ((u9 0), .inl (k 0, 3, .inl (fun _ => 0))), (q11, .inr (2, [.ref (u12 0), .int 0, .int 0])), ((u12 0), .inl (k 0, 3, .inl (fun _ => 0))), (q14, .inr (2, [.ref (u15 0), .int 0, .int 0])), ((u15 0), .inl (k 0, 3, .inl (fun _ => 0))), (q17, .inr (2, [.ref (u18 0), .int 0, .int 0])), ((u18 0), .inl (k 0, 3, .inl (fun _ => 0))), (q20, .inr (2, [.ref (u21 0), .int 0, .int 0])), ((u21 0), .inl (k 0, 3, .inl (fun _ => 0))), (q23, .inr (2, [.ref (u24 0), .int 0, .int 0])), ((u24 0), .inl (k 0, 3, .inl (fun _ => 0))), (q26, .inr (2, [.ref (u27 0), .int 0, .int 0])), ((u27 0), .inl (k 0, 3, .inl (fun _ => 0)))]) rfl rfl d_Be_init_86 (fun H locs S => ?_)
  refine lv_iinc (v := 4) (lv' := [(1, .int 4), (0, .ref h0)]) hx hb d_Be_init_87 hl (k := 0) rfl (by decide) (by decide) rfl (fun ls hl => ?_)
  refine lv_goto (tgt := 69) hx hb d_Be_init_90 (by decide) ?_
  refine lv_iload_n hx hb d_Be_init_69 rfl (lv_at hl 0 rfl) ?_
  refine lv_iconst (v := 3) hx hb d_Be_init_70 (by decide) ?_
  refine lv_icmp_gt (tgt := 93) hx hb d_Be_init_71 (by decide) (fun _ => ?_) (fun hq => absurd (by decide) hq)
  exact r_vret C K (ul [q1, q2, (u3 0), q5, (u6 0), q8, (u9 0), q11, (u12 0), q14, (u15 0), q17, (u18 0), q20, (u21 0), q23, (u24 0), q26, (u27 0)]) trivial (S.sub [0, 1, 2, 3, 4, 5, 6, 7, 8, 9, 10, 11, 12, 13, 14, 15, 16, 17, 18, 19] (by decide) rfl) d_Be_init_93 (Nat.le_of_ble_eq_true rfl) (Nat.le_of_ble_eq_true rfl)
end
section
theorem d_PB_init_0 : decode c_PB_init 0 = .ok (.aload_n 0, 1) := by decide +kernel
theorem d_PB_init_1 : decode c_PB_init 1 = .ok (.invokespecial 3, 3) := by decide +kernel
theorem d_PB_init_4 : decode c_PB_init 4 = .ok (.aload_n 0, 1) := by decide +kernel
theorem d_PB_init_5 : decode c_PB_init 5 = .ok (.iconst 4, 1) := by decide +kernel
theorem d_PB_init_6 : decode c_PB_init 6 = .ok (.anewarray 9, 3) := by decide +kernel
theorem d_PB_init_9 : decode c_PB_init 9 = .ok (.putfield 11, 3) := by decide +kernel
theorem d_PB_init_12 : decode c_PB_init 12 = .ok (.aload_n 0, 1) := by decide +kernel
theorem d_PB_init_13 : decode c_PB_init 13 = .ok (.new 15, 3) := by decide +kernel
theorem d_PB_init_16 : decode c_PB_init 16 = .ok (.dup, 1) := by decide +kernel
theorem d_PB_init_17 : decode c_PB_init 17 = .ok (.invokespecial 17, 3) := by decide +kernel
theorem d_PB_init_20 : decode c_PB_init 20 = .ok (.putfield 18, 3) := by decide +kernel
theorem d_PB_init_23 : decode c_PB_init 23 = .ok (.aload_n 0, 1) := by decide +kernel
theorem d_PB_init_24 : decode c_PB_init 24 = .ok (.new 22, 3) := by decide +kernel
theorem d_PB_init_27 : decode c_PB_init 27 = .ok (.dup, 1) := by decide +kernel
theorem d_PB_init_28 : decode c_PB_init 28 = .ok (.invokespecial 24, 3) := by decide +kernel
theorem d_PB_init_31 : decode c_PB_init 31 = .ok (.putfield 25, 3) := by decide +kernel
theorem d_PB_init_34 : decode c_PB_init 34 = .ok (.aload_n 0, 1) := by decide +kernel
theorem d_PB_init_35 : decode c_PB_init 35 = .ok (.bipush (-2), 2) := by decide +kernel
theorem d_PB_init_37 : decode c_PB_init 37 = .ok (.putfield 29, 3) := by decide +kernel
theorem d_PB_init_40 : decode c_PB_init 40 = .ok (.iconst 0, 1) := by decide +kernel
theorem d_PB_init_41 : decode c_PB_init 41 = .ok (.istore_n 1, 1) := by decide +kernel
theorem d_PB_init_42 : decode c_PB_init 42 = .ok (.iload_n 1, 1) := by decide +kernel
theorem d_PB_init_43 : decode c_PB_init 43 = .ok (.iconst 4, 1) := by decide +kernel
theorem d_PB_init_44 : decode c_PB_init 44 = .ok (.if_icmp .ge 22, 3) := by decide +kernel
theorem d_PB_init_47 : decode c_PB_init 47 = .ok (.aload_n 0, 1) := by decide +kernel
theorem d_PB_init_48 : decode c_PB_init 48 = .ok (.getfield 11, 3) := by decide +kernel
theorem d_PB_init_51 : decode c_PB_init 51 = .ok (.iload_n 1, 1) := by decide +kernel
theorem d_PB_init_52 : decode c_PB_init 52 = .ok (.new 9, 3) := by decide +kernel
theorem d_PB_init_55 : decode c_PB_init 55 = .ok (.dup, 1) := by decide +kernel
theorem d_PB_init_56 : decode c_PB_init 56 = .ok (.invokespecial 33, 3) := by decide +kernel
theorem d_PB_init_59 : decode c_PB_init 59 = .ok (.aastore, 1) := by decide +kernel
theorem d_PB_init_60 : decode c_PB_init 60 = .ok (.iinc 1 1, 3) := by decide +kernel
theorem d_PB_init_63 : decode c_PB_init 63 = .ok (.goto (-21), 3) := by decide +kernel
theorem d_PB_init_66 : decode c_PB_init 66 = .ok (.aload_n 0, 1) := by decide +kernel
theorem d_PB_init_67 : decode c_PB_init 67 = .ok (.new 34, 3) := by decide +kernel
theorem d_PB_init_70 : decode c_PB_init 70 = .ok (.dup, 1) := by decide +kernel
theorem d_PB_init_71 : decode c_PB_init 71 = .ok (.aload_n 0, 1) := by decide +kernel
theorem d_PB_init_72 : decode c_PB_init 72 = .ok (.getfield 11, 3) := by decide +kernel
theorem d_PB_init_75 : decode c_PB_init 75 = .ok (.invokespecial 36, 3) := by decide +kernel
theorem d_PB_init_78 : decode c_PB_init 78 = .ok (.putfield 39, 3) := by decide +kernel
theorem d_PB_init_81 : decode c_PB_init 81 = .ok (.aload_n 0, 1) := by decide +kernel
theorem d_PB_init_82 : decode c_PB_init 82 = .ok (.new 43, 3) := by decide +kernel
theorem d_PB_init_85 : decode c_PB_init 85 = .ok (.dup, 1) := by decide +kernel
theorem d_PB_init_86 : decode c_PB_init 86 = .ok (.aload_n 0, 1) := by decide +kernel
theorem d_PB_init_87 : decode c_PB_init 87 = .ok (.getfield 11, 3) := by decide +kernel
theorem d_PB_init_90 : decode c_PB_init 90 = .ok (.invokespecial 45, 3) := by decide +kernel
theorem d_PB_init_93 : decode c_PB_init 93 = .ok (.putfield 46, 3) := by decide +kernel
theorem d_PB_init_96 : decode c_PB_init 96 = .ok (.aload_n 0, 1) := by decide +kernel
theorem d_PB_init_97 : decode c_PB_init 97 = .ok (.new 50, 3) := by decide +kernel
theorem d_PB_init_100 : decode c_PB_init 100 = .ok (.dup, 1) := by decide +kernel
theorem d_PB_init_101 : decode c_PB_init 101 = .ok (.aload_n 0, 1) := by decide +kernel
theorem d_PB_init_102 : decode c_PB_init 102 = .ok (.getfield 11, 3) := by decide +kernel
theorem d_PB_init_105 : decode c_PB_init 105 = .ok (.invokespecial 52, 3) := by decide +kernel
theorem d_PB_init_108 : decode c_PB_init 108 = .ok (.putfield 53, 3) := by decide +kernel
theorem d_PB_init_111 : decode c_PB_init 111 = .ok (.return_, 1) := by decide +kernel
set_option maxRecDepth 100000 in
set_option maxHeartbeats 4000000 in
/-- PotentialBench(): all that it is made of (but for the rows of the tables of Needs) -/
theorem k_PB_init (l : Launch) (G : va_G) (k : Nat → ClassId) (h0 sz : Nat) : CV l y_PB_init c_PB_init 2 { frames := 3, cells := 509, slots := 26027, locals := 61 } [.ref h0] G k sz [(h0, .inr (0, [.null, .null, .null, .null, .null, .null, .int 0, .int 0, .int 0]))] (fun _ : Nat → Nat => True) (fun u => [(h0, .inr (0, [.ref (u 0), .ref (u 29), .ref (u 30), .ref (u 35), .ref (u 43), .ref (u 59), .int 0, .int (-2), .int 0])), ((u 0), .inl (k 3, 4, .inr (.inr (.inr (.inr (va_up (va_up (va_up (va_up (fun _ => none) 0 (some (u 1))) 1 (some (u 8))) 2 (some (u 15))) 3 (some (u 22)))))))), ((u 1), .inr (4, [.ref (u 2), .ref (u 3), .ref (u 4), .ref (u 5), .ref (u 6), .ref (u 7), .int 0, .int 0, .int 0])), ((u 2), .inl (k 0, 200, .inl (fun _ => 0))), ((u 3), .inl (k 0, 40, .inl (fun _ => 0))), ((u 4), .inl (k 0, 40, .inl (fun _ => 0))), ((u 5), .inl (k 0, 40, .inl (fun _ => 0))), ((u 6), .inl (k 0, 40, .inl (fun _ => 0))), ((u 7), .inl (k 0, 40, .inl (fun _ => 0))), ((u 8), .inr (4, [.ref (u 9), .ref (u 10), .ref (u 11), .ref (u 12), .ref (u 13), .ref (u 14), .int 0, .int 0, .int 0])), ((u 9), .inl (k 0, 200, .inl (fun _ => 0))), ((u 10), .inl (k 0, 40, .inl (fun _ => 0))), ((u 11), .inl (k 0, 40, .inl (fun _ => 0))), ((u 12), .inl (k 0, 40, .inl (fun _ => 0))), ((u 13), .inl (k 0, 40, .inl (fun _ => 0))), ((u 14), .inl (k 0, 40, .inl (fun _ => 0))), ((u 15), .inr (4, [.ref (u 16), .ref (u 17), .ref (u 18), .ref (u 19), .ref (u 20), .ref (u 21), .int 0, .int 0, .int 0])), ((u 16), .inl (k 0, 200, .inl (fun _ => 0))), ((u 17), .inl (k 0, 40, .inl (fun _ => 0))), ((u 18), .inl (k 0, 40, .inl (fun _ => 0))), ((u 19), .inl (k 0, 40, .inl (fun _ => 0))), ((u 20), .inl (k 0, 40, .inl (fun _ => 0))), ((u 21), .inl (k 0, 40, .inl (fun _ => 0))), ((u 22), .inr (4, [.ref (u 23), .ref (u 24), .ref (u 25), .ref (u 26), .ref (u 27), .ref (u 28), .int 0, .int 0, .int 0])), ((u 23), .inl (k 0, 200, .inl (fun _ => 0))), ((u 24), .inl (k 0, 40, .inl (fun _ => 0))), ((u 25), .inl (k 0, 40, .inl (fun _ => 0))), ((u 26), .inl (k 0, 40, .inl (fun _ => 0))), ((u 27), .inl (k 0, 40, .inl (fun _ => 0))), ((u 28), .inl (k 0, 40, .inl (fun _ => 0))), ((u 29), .inr (5, [.ref (u 0), .ref (u 1), .int 0, .int 0, .int (-2)])), ((u 30), .inr (6, [.ref (u 0), .ref (u 31), .ref (u 32), .ref (u 33), .ref (u 34), .int 0, .int 0, .int 0, .int 0, .int 0, .long 0, .int (-2)])), ((u 31), .inl (k 0, 60, .inl (fun _ => 0))), ((u 32), .inl (k 0, 1080, .inl (fun _ => 0))), ((u 33), .inl (k 0, 960, .inl (fun _ => 0))), ((u 34), .inl (k 0, 60, .inl (fun _ => 0))), ((u 35), .inr (7, [.ref (u 0), .ref (u 36), .ref (u 37), .ref (u 38), .ref (u 39), .ref (u 40), .ref (u 41), .ref (u 42), .ref (u 1), .int 0, .int 0, .int 0])), ((u 36), .inl (k 0, 4, .inl (fun _ => 0))), ((u 37), .inl (k 5, 90, .inr (.inr (.inr (.inr (fun j => some ((u 37) + 1 + j))))))), ((u 38), .inl (k 0, 41, .inl (fun _ => 0))), ((u 39), .inl (k 0, 41, .inl (fun _ => 0))), ((u 40), .inl (k 5, 306, .inr (.inr (.inr (.inr (fun j => some ((u 40) + 1 + j))))))), ((u 41), .inl (k 5, 17, .inr (.inr (.inr (.inr (fun j => some ((u 41) + 1 + j))))))), ((u 42), .inl (k 5, 17, .inr (.inr (.inr (.inr (fun j => some ((u 42) + 1 + j))))))), ((u 43), .inr (1, [.ref (u 44), .ref (u 45), .ref (u 46), .ref (u 47), .ref (u 48), .ref (u 49), .ref (u 51), .ref (u 53), .ref (u 55), .ref (u 57), .int 0, .int 0, .int 0, .int 0])), ((u 44), .inl (k 4, 3731, .inr (.inr (.inr (.inr (fun _ => none)))))), ((u 45), .inl (k 0, 40, .inl (fun _ => 0))), ((u 46), .inl (k 0, 40, .inl (fun _ => 0))), ((u 47), .inl (k 0, 91, .inl (fun _ => 0))), ((u 48), .inl (k 0, 40, .inl (fun _ => 0))), ((u 49), .inr (2, [.ref (u 50), .int 0, .int 0])), ((u 50), .inl (k 0, 3, .inl (fun _ => 0))), ((u 51), .inr (2, [.ref (u 52), .int 0, .int 0])), ((u 52), .inl (k 0, 3, .inl (fun _ => 0))), ((u 53), .inr (2, [.ref (u 54), .int 0, .int 0])), ((u 54), .inl (k 0, 3, .inl (fun _ => 0))), ((u 55), .inr (2, [.ref (u 56), .int 0, .int 0])), ((u 56), .inl (k 0, 3, .inl (fun _ => 0))), ((u 57), .inr (2, [.ref (u 58), .int 0, .int 0])), ((u 58), .inl (k 0, 3, .inl (fun _ => 0))), ((u 59), .inr (3, [.ref (u 60), .ref (u 61), .ref (u 63), .ref (u 65), .ref (u 67), .ref (u 69), .int 0, .int 0])), ((u 60), .inl (k 4, 4, .inr (.inr (.inr (.inr (va_up (va_up (va_up (va_up (fun _ => none) 0 (some (u 71))) 1 (some (u 73))) 2 (some (u 75))) 3 (some (u 77)))))))), ((u 61), .inr (2, [.ref (u 62), .int 0, .int 0])), ((u 62), .inl (k 0, 3, .inl (fun _ => 0))), ((u 63), .inr (2, [.ref (u 64), .int 0, .int 0])), ((u 64), .inl (k 0, 3, .inl (fun _ => 0))), ((u 65), .inr (2, [.ref (u 66), .int 0, .int 0])), ((u 66), .inl (k 0, 3, .inl (fun _ => 0))), ((u 67), .inr (2, [.ref (u 68), .int 0, .int 0])), ((u 68), .inl (k 0, 3, .inl (fun _ => 0))), ((u 69), .inr (2, [.ref (u 70), .int 0, .int 0])), ((u 70), .inl (k 0, 3, .inl (fun _ => 0))), ((u 71), .inr (2, [.ref (u 72), .int 0, .int 0])), ((u 72), .inl (k 0, 3, .inl (fun _ => 0))), ((u 73), .inr (2, [.ref (u 74), .int 0, .int 0])), ((u 74), .inl (k 0, 3, .inl (fun _ => 0))), ((u 75), .inr (2, [.ref (u 76), .int 0, .int 0])), ((u 76), .inl (k 0, 3, .inl (fun _ => 0))), ((u 77), .inr (2, [.ref (u 78), .int 0, .int 0])), ((u 78), .inl (k 0, 3, .inl (fun _ => 0)))]) 509 26027 := by
  refine met_start (by decide) (Nat.le_of_ble_eq_true rfl) ?_
  intro p e s m below meth c C K hA hsz S ls hl
  generalize va_A [(h0, .inr (0, [.null, .null, .null, .null, .null, .null, .int 0, .int 0, .int 0]))] sz = A at hA S ⊢
  have hx := C.1
  have hb := C.2.1
  have hl : lv_has ls 2 [(0, .ref h0)] := hl
  refine lv_aload_n hx hb d_PB_init_0 rfl (lv_at hl 0 rfl) ?_
  refine r_objInit C wm_PB_3 hl.1 d_PB_init_1 (Nat.le_of_ble_eq_true rfl) (Nat.le_of_ble_eq_true rfl) ?_
  refine lv_aload_n hx hb d_PB_init_4 rfl (lv_at hl 0 rfl) ?_
  refine lv_iconst (v := 4) hx hb d_PB_init_5 (by decide) ?_
  refine r_newB C K S hA wl_PB_9 4 (by decide) (by decide) (by decide) (Nat.le_of_ble_eq_true rfl) (Nat.le_of_ble_eq_true rfl) d_PB_init_6 (fun q1 H S => ?_)
  have S : Sw G A s.heap _ _ [(h0, .inr (0, [.null, .null, .null, .null, .null, .null, .int 0, .int 0, .int 0])), (q1, .inl (k 3, 4, .inr (.inr (.inr (.inr (fun _ => none))))))] := S
  refine r_putF C K S 0 rfl rfl clOk_PB 0 (by decide) wf_PB_11 rfl rfl (ty := .array (.object "PotentialBench$Body")) (v := .ref q1) (by decide +kernel) rfl rfl (Nat.le_of_ble_eq_true rfl) (fs' := [.ref q1, .null, .null, .null, .null, .null, .int 0, .int 0, .int 0]) (ws' := [(h0, .inr (0, [.ref q1, .null, .null, .null, .null, .null, .int 0, .int 0, .int 0])), (q1, .inl (k 3, 4, .inr (.inr (.inr (.inr (fun _ => none))))))]) rfl rfl d_PB_init_9 (fun H locs S => ?_)
  refine lv_aload_n hx hb d_PB_init_12 rfl (lv_at hl 0 rfl) ?_
  refine r_new C K S hA 1 rfl clOk_So wl_PB_15 wi_So wz_So t_So k_So (fs := [.null, .null, .null, .null, .null, .null, .null, .null, .null, .null, .int 0, .int 0, .int 0, .int 0]) df_So (Nat.le_of_ble_eq_true rfl) (Nat.le_of_ble_eq_true rfl) d_PB_init_13 (fun q2 H S => ?_)
  have S : Sw G A s.heap _ _ [(h0, .inr (0, [.ref q1, .null, .null, .null, .null, .null, .int 0, .int 0, .int 0])), (q1, .inl (k 3, 4, .inr (.inr (.inr (.inr (fun _ => none)))))), (q2, .inr (1, [.null, .null, .null, .null, .null, .null, .null, .null, .null, .null, .int 0, .int 0, .int 0, .int 0]))] := S
  refine lv_dup hx hb d_PB_init_16 rfl ?_
  refine r_backv (wi := [(q2, .inr (1, [.null, .null, .null, .null, .null, .null, .null, .null, .null, .null, .int 0, .int 0, .int 0, .int 0]))]) (wr := [(h0, .inr (0, [.ref q1, .null, .null, .null, .null, .null, .int 0, .int 0, .int 0])), (q1, .inl (k 3, 4, .inr (.inr (.inr (.inr (fun _ => none))))))]) S hA [2] [0, 1] rfl rfl (by decide) (by decide) (va_runIN (As := []) (rest := [.ref q2, .ref h0]) ⟨hx, hb, C.2.2.1, C.2.2.2.1, C.2.2.2.2.1⟩ (k_So_init l G k q2 _) (k_ctorN (n := 0) C K wc_So_init rfl rfl wz_So xm_PB_17 wn_So_init rfl (by decide +kernel) ⟨(Nat.le_of_ble_eq_true rfl), (Nat.le_of_ble_eq_true rfl)⟩) (pr_now K S [2] (by decide) rfl) rfl rfl hl.1 rfl (lv_room (Nat.le_of_ble_eq_true rfl)) d_PB_init_17 ⟨(Nat.le_of_ble_eq_true rfl), (Nat.le_of_ble_eq_true rfl)⟩) (fun u3 H locs hw4 S => ?_)
  have S : Sw G A s.heap _ _ [(h0, .inr (0, [.ref q1, .null, .null, .null, .null, .null, .int 0, .int 0, .int 0])), (q1, .inl (k 3, 4, .inr (.inr (.inr (.inr (fun _ => none)))))), (q2, .inr (1, [.ref (u3 0), .ref (u3 1), .ref (u3 2), .ref (u3 3), .ref (u3 4), .ref (u3 5), .ref (u3 7), .ref (u3 9), .ref (u3 11), .ref (u3 13), .int 0, .int 0, .int 0, .int 0])), ((u3 0), .inl (k 4, 3731, .inr (.inr (.inr (.inr (fun _ => none)))))), ((u3 1), .inl (k 0, 40, .inl (fun _ => 0))), ((u3 2), .inl (k 0, 40, .inl (fun _ => 0))), ((u3 3), .inl (k 0, 91, .inl (fun _ => 0))), ((u3 4), .inl (k 0, 40, .inl (fun _ => 0))), ((u3 5), .inr (2, [.ref (u3 6), .int 0, .int 0])), ((u3 6), .inl (k 0, 3, .inl (fun _ => 0))), ((u3 7), .inr (2, [.ref (u3 8), .int 0, .int 0])), ((u3 8), .inl (k 0, 3, .inl (fun _ => 0))), ((u3 9), .inr (2, [.ref (u3 10), .int 0, .int 0])), ((u3 10), .inl (k 0, 3, .inl (fun _ => 0))), ((u3 11), .inr (2, [.ref (u3 12), .int 0, .int 0])), ((u3 12), .inl (k 0, 3, .inl (fun _ => 0))), ((u3 13), .inr (2, [.ref (u3 14), .int 0, .int 0])), ((u3 14), .inl (k 0, 3, .inl (fun _ => 0)))] := S
  refine r_putF C K S 0 rfl rfl clOk_PB 4 (by decide) wf_PB_18 rfl rfl (ty := .object "PotentialBench$Solver") (v := .ref q2) (by decide +kernel) rfl rfl (Nat.le_of_ble_eq_true rfl) (fs' := [.ref q1, .null, .null, .null, .ref q2, .null, .int 0, .int 0, .int 0]) (ws' := [(h0, .inr (0, [.ref q1, .null, .null, .null, .ref q2, .null, .int 0, .int 0, .int 0])), (q1, .inl (k 3, 4, .inr (.inr (.inr (.inr (fun _ => none)))))), (q2, .inr (1, [.ref (u3 0), .ref (u3 1), .ref (u3 2), .ref (u3 3), .ref (u3 4), .ref (u3 5), .ref (u3 7), .ref (u3 9), .ref (u3 11), .ref (u3 13), .int 0, .int 0, .int 0, .int 0])), ((u3 0), .inl (k 4, 3731, .inr (.inr (.inr (.inr (fun _ => none)))))), ((u3 1), .inl (k 0, 40, .inl (fun _ => 0))), ((u3 2), .inl (k 0, 40, .inl (fun _ => 0))), ((u3 3), .inl (k 0, 91, .inl (fun _ => 0))), ((u3 4), .inl (k 0, 40, .inl (fun _ => 0))), ((u3 5), .inr (2, [.ref (u3 6), .int 0, .int 0])), ((u3 6), .inl (k 0, 3, .inl (fun _ => 0))), ((u3 7), .inr (2, [.ref (u3 8), .int 0, .int 0])), ((u3 8), .inl (k 0, 3, .inl (fun _ => 0))), ((u3 9), .inr (2, [.ref (u3 10), .int 0, .int 0])), ((u3 10), .inl (k 0, 3, .inl (fun _ => 0))), ((u3 11), .inr (2, [.ref (u3 12), .int 0, .int 0])), ((u3 12), .inl (k 0, 3, .inl (fun _ => 0))), ((u3 13), .inr (2, [.ref (u3 14), .int 0, .int 0])), ((u3 14), .inl (k 0, 3, .inl (fun _ => 0)))]) rfl rfl d_PB_init_20 (fun H locs S => ?_)
  refine lv_aload_n hx hb d_PB_init_23 rfl (lv_at hl 0 rfl) ?_
  refine r_new C K S hA 3 rfl clOk_Be wl_PB_22 wi_Be wz_Be t_Be k_Be (fs := [.null, .null, .null, .null, .null, .null, .int 0, .int 0]) df_Be (Nat.le_of_ble_eq_true rfl) (Nat.le_of_ble_eq_true rfl) d_PB_init_24 (fun q5 H S => ?_)
  have S : Sw G A s.heap _ _ [(h0, .inr (0, [.ref q1, .null, .null, .null, .ref q2, .null, .int 0, .int 0, .int 0])), (q1, .inl (k 3, 4, .inr (.inr (.inr (.inr (fun _ => none)))))), (q2, .inr (1, [.ref (u3 0), .ref (u3 1), .ref (u3 2), .ref (u3 3), .ref (u3 4), .ref (u3 5), .ref (u3 7), .ref (u3 9), .ref (u3 11), .ref (u3 13), .int 0, .int 0, .int 0, .int 0])), ((u3 0), .inl (k 4, 3731, .inr (.inr (.inr (.inr (fun _ => none)))))), ((u3 1), .inl (k 0, 40, .inl (fun _ => 0))), ((u3 2), .inl (k 0, 40, .inl (fun _ => 0))), ((u3 3), .inl (k 0, 91, .inl (fun _ => 0))), ((u3 4), .inl (k 0, 40, .inl (fun _ => 0))), ((u3 5), .inr (2, [.ref (u3 6), .int 0, .int 0])), ((u3 6), .inl (k 0, 3, .inl (fun _ => 0))), ((u3 7), .inr (2, [.ref (u3 8), .int 0, .int 0])), ((u3 8), .inl (k 0, 3, .inl (fun _ => 0))), ((u3 9), .inr (2, [.ref (u3 10), .int 0, .int 0])), ((u3 10), .inl (k 0, 3, .inl (fun _ => 0))), ((u3 11), .inr (2, [.ref (u3 12), .int 0, .int 0])), ((u3 12), .inl (k 0, 3, .inl (fun _ => 0))), ((u3 13), .inr (2, [.ref (u3 14), .int 0, .int 0])), ((u3 14), .inl (k 0, 3, .inl (fun _ => 0))), (q5, .inr (3, [.null, .null, .null, .null, .null, .null, .int 0, .int 0]))] := S
  refine lv_dup hx hb d_PB_init_27 rfl ?_
  refine r_backv (wi := [(q5, .inr (3, [.null, .null, .null, .null, .null, .null, .int 0, .int 0]))]) (wr := [(h0, .inr (0, [.ref q1, .null, .null, .null, .ref q2, .null, .int 0, .int 0, .int 0])), (q1, .inl (k 3, 4, .inr (.inr (.inr (.inr (fun _ => none)))))), (q2, .inr (1, [.ref (u3 0), .ref (u3 1), .ref (u3 2), .ref (u3 3), .ref (u3 4), .ref (u3 5), .ref (u3 7), .ref (u3 9), .ref (u3 11), .ref (u3 13), .int 0, .int 0, .int 0, .int 0])), ((u3 0), .inl (k 4, 3731, .inr (.inr (.inr (.inr (fun _ => none)))))), ((u3 1), .inl (k 0, 40, .inl (fun _ => 0))), ((u3 2), .inl (k 0, 40, .inl (fun _ => 0))), ((u3 3), .inl (k 0, 91, .inl (fun _ => 0))), ((u3 4), .inl (k 0, 40, .inl (fun _ => 0))), ((u3 5), .inr (2, [.ref (u3 6), .int 0, .int 0])), ((u3 6), .inl (k 0, 3, .inl (fun _ => 0))), ((u3 7), .inr (2, [.ref (u3 8), .int 0, .int 0])), ((u3 8), .inl (k 0, 3, .inl (fun _ => 0))), ((u3 9), .inr (2, [.ref (u3 10), .int 0, .int 0])), ((u3 10), .inl (k 0, 3, .inl (fun _ => 0))), ((u3 11), .inr (2, [.ref (u3 12), .int 0, .int 0])), ((u3 12), .inl (k 0, 3, .inl (fun _ => 0))), ((u3 13), .inr (2, [.ref (u3 14), .int 0, .int 0])), ((u3 14), .inl (k 0, 3, .inl (fun _ => 0)))]) S hA [18] [0, 1, 2, 3, 4, 5, 6, 7, 8, 9, 10, 11, 12, 13, 14, 15, 16, 17] rfl rfl (by decide) (by decide) (va_runIN (As := []) (rest := [.ref q5, .ref h0]) ⟨hx, hb, C.2.2.1, C.2.2.2.1, C.2.2.2.2.1⟩ (k_Be_init l G k q5 _) (k_ctorN (n := 0) C K wc_Be_init rfl rfl wz_Be xm_PB_24 wn_Be_init rfl (by decide +kernel) ⟨(Nat.le_of_ble_eq_true rfl), (Nat.le_of_ble_eq_true rfl)⟩) (pr_now K S [18] (by decide) rfl) rfl rfl hl.1 rfl (lv_room (Nat.le_of_ble_eq_true rfl)) d_PB_init_28 ⟨(Nat.le_of_ble_eq_true rfl), (Nat.le_of_ble_eq_true rfl)⟩) (fun u6 H locs hw7 S => ?_)
  have S : Sw G A s.heap _ _ [(h0, .inr (0, [.ref q1, .null, .null, .null, .ref q2, .null, .int 0, .int 0, .int 0])), (q1, .inl (k 3, 4, .inr (.inr (.inr (.inr (fun _ => none)))))), (q2, .inr (1, [.ref (u3 0), .ref (u3 1), .ref (u3 2), .ref (u3 3), .ref (u3 4), .ref (u3 5), .ref (u3 7), .ref (u3 9), .ref (u3 11), .ref (u3 13), .int 0, .int 0, .int 0, .int 0])), ((u3 0), .inl (k 4, 3731, .inr (.inr (.inr (.inr (fun _ => none)))))), ((u3 1), .inl (k 0, 40, .inl (fun _ => 0))), ((u3 2), .inl (k 0, 40, .inl (fun _ => 0))), ((u3 3), .inl (k 0, 91, .inl (fun _ => 0))), ((u3 4), .inl (k 0, 40, .inl (fun _ => 0))), ((u3 5), .inr (2, [.ref (u3 6), .int 0, .int 0])), ((u3 6), .inl (k 0, 3, .inl (fun _ => 0))), ((u3 7), .inr (2, [.ref (u3 8), .int 0, .int 0])), ((u3 8), .inl (k 0, 3, .inl (fun _ => 0))), ((u3 9), .inr (2, [.ref (u3 10), .int 0, .int 0])), ((u3 10), .inl (k 0, 3, .inl (fun _ => 0))), ((u3 11), .inr (2, [.ref (u3 12), .int 0, .int 0])), ((u3 12), .inl (k 0, 3, .inl (fun _ => 0))), ((u3 13), .inr (2, [.ref (u3 14), .int 0, .int 0])), ((u3 14), .inl (k 0, 3, .inl (fun _ => 0))), (q5, .inr (3, [.ref (u6 0), .ref (u6 1), .ref (u6 3), .ref (u6 5), .ref (u6 7), .ref (u6 9), .int 0, .int 0])), ((u6 0), .inl (k 4, 4, .inr (.inr (.inr (.inr (va_up (va_up (va_up (va_up (fun _ => none) 0 (some (u6 11))) 1 (some (u6 13))) 2 (some (u6 15))) 3 (some (u6 17)))))))), ((u6 1), .inr (2, [.ref (u6 2), .int 0, .int 0])), ((u6 2), .inl (k 0, 3, .inl (fun _ => 0))), ((u6 3), .inr (2, [.ref (u6 4), .int 0, .int 0])), ((u6 4), .inl (k 0, 3, .inl (fun _ => 0))), ((u6 5), .inr (2, [.ref (u6 6), .int 0, .int 0])), ((u6 6), .inl (k 0, 3, .inl (fun _ => 0))), ((u6 7), .inr (2, [.ref (u6 8), .int 0, .int 0])), ((u6 8), .inl (k 0, 3, .inl (fun _ => 0))), ((u6 9), .inr (2, [.ref (u6 10), .int 0, .int 0])), ((u6 10), .inl (k 0, 3, .inl (fun _ => 0))), ((u6 11), .inr (2, [.ref (u6 12), .int 0, .int 0])), ((u6 12), .inl (k 0, 3, .inl (fun _ => 0))), ((u6 13), .inr (2, [.ref (u6 14), .int 0, .int 0])), ((u6 14), .inl (k 0, 3, .inl (fun _ => 0))), ((u6 15), .inr (2, [.ref (u6 16), .int 0, .int 0])), ((u6 16), .inl (k 0, 3, .inl (fun _ => 0))), ((u6 17), .inr (2, [.ref (u6 18), .int 0, .int 0])), ((u6 18), .inl (k 0, 3, .inl (fun _ => 0)))] := S
  refine r_putF C K S 0 rfl rfl clOk_PB 5 (by decide) wf_PB_25 rfl rfl (ty := .object "PotentialBench$Best") (v := .ref q5) (by decide +kernel) rfl rfl (Nat.le_of_ble_eq_true rfl) (fs' := [.ref q1, .null, .null, .null, .ref q2, .ref q5, .int 0, .int 0, .int 0]) (ws' := [(h0, .inr (0, [.ref q1, .null, .null, .null, .ref q2, .ref q5, .int 0, .int 0, .int 0])), (q1, .inl (k 3, 4, .inr (.inr (.inr (.inr (fun _ => none)))))), (q2, .inr (1, [.ref (u3 0), .ref (u3 1), .ref (u3 2), .ref (u3 3), .ref (u3 4), .ref (u3 5), .ref (u3 7), .ref (u3 9), .ref (u3 11), .ref (u3 13), .int 0, .int 0, .int 0, .int 0])), ((u3 0), .inl (k 4, 3731, .inr (.inr (.inr (.inr (fun _ => none)))))), ((u3 1), .inl (k 0, 40, .inl (fun _ => 0))), ((u3 2), .inl (k 0, 40, .inl (fun _ => 0))), ((u3 3), .inl (k 0, 91, .inl (fun _ => 0))), ((u3 4), .inl (k 0, 40, .inl (fun _ => 0))), ((u3 5), .inr (2, [.ref (u3 6), .int 0, .int 0])), ((u3 6), .inl (k 0, 3, .inl (fun _ => 0))), ((u3 7), .inr (2, [.ref (u3 8), .int 0, .int 0])), ((u3 8), .inl (k 0, 3, .inl (fun _ => 0))), ((u3 9), .inr (2, [.ref (u3 10), .int 0, .int 0])), ((u3 10), .inl (k 0, 3, .inl (fun _ => 0))), ((u3 11), .inr (2, [.ref (u3 12), .int 0, .int 0])), ((u3 12), .inl (k 0, 3, .inl (fun _ => 0))), ((u3 13), .inr (2, [.ref (u3 14), .int 0, .int 0])), ((u3 14), .inl (k 0, 3, .inl (fun _ => 0))), (q5, .inr (3, [.ref (u6 0), .ref (u6 1), .ref (u6 3), .ref (u6 5), .ref (u6 7), .ref (u6 9), .int 0, .int 0])), ((u6 0), .inl (k 4, 4, .inr (.inr (.inr (.inr (va_up (va_up (va_up (va_up (fun _ => none) 0 (some (u6 11))) 1 (some (u6 13))) 2 (some (u6 15))) 3 (some (u6 17)))))))), ((u6 1), .inr (2, [.ref (u6 2), .int 0, .int 0])), ((u6 2), .inl (k 0, 3, .inl (fun _ => 0))), ((u6 3), .inr (2, [.ref (u6 4), .int 0, .int 0])), ((u6 4), .inl (k 0, 3, .inl (fun _ => 0))), ((u6 5), .inr (2, [.ref (u6 6), .int 0, .int 0])), ((u6 6), .inl (k 0, 3, .inl (fun _ => 0))), ((u6 7), .inr (2, [.ref (u6 8), .int 0, .int 0])), ((u6 8), .inl (k 0, 3, .inl (fun _ => 0))), ((u6 9), .inr (2, [.ref (u6 10), .int 0, .int 0])), ((u6 10), .inl (k 0, 3, .inl (fun _ => 0))), ((u6 11), .inr (2, [.ref (u6 12), .int 0, .int 0])), ((u6 12), .inl (k 0, 3, .inl (fun _ => 0))), ((u6 13), .inr (2, [.ref (u6 14), .int 0, .int 0])), ((u6 14), .inl (k 0, 3, .inl (fun _ => 0))), ((u6 15), .inr (2, [.ref (u6 16), .int 0, .int 0])), ((u6 16), .inl (k 0, 3, .inl (fun _ => 0))), ((u6 17), .inr (2, [.ref (u6 18), .int 0, .int 0])), ((u6 18), .inl (k 0, 3, .inl (fun _ => 0)))]) rfl rfl d_PB_init_31 (fun H locs S => ?_)
  refine lv_aload_n hx hb d_PB_init_34 rfl (lv_at hl 0 rfl) ?_
  refine lv_bipush (v := (-2)) hx hb d_PB_init_35 (by decide) ?_
  refine r_put C K S 0 rfl rfl clOk_PB 7 (by decide) wf_PB_29 rfl (ty := .int) (v := .int (-2)) (by decide +kernel) rfl rfl (Nat.le_of_ble_eq_true rfl) (fs' := [.ref q1, .null, .null, .null, .ref q2, .ref q5, .int 0, .int (-2), .int 0]) (ws' := [(h0, .inr (0, [.ref q1, .null, .null, .null, .ref q2, .ref q5, .int 0, .int (-2), .int 0])), (q1, .inl (k 3, 4, .inr (.inr (.inr (.inr (fun _ => none)))))), (q2, .inr (1, [.ref (u3 0), .ref (u3 1), .ref (u3 2), .ref (u3 3), .ref (u3 4), .ref (u3 5), .ref (u3 7), .ref (u3 9), .ref (u3 11), .ref (u3 13), .int 0, .int 0, .int 0, .int 0])), ((u3 0), .inl (k 4, 3731, .inr (.inr (.inr (.inr (fun _ => none)))))), ((u3 1), .inl (k 0, 40, .inl (fun _ => 0))), ((u3 2), .inl (k 0, 40, .inl (fun _ => 0))), ((u3 3), .inl (k 0, 91, .inl (fun _ => 0))), ((u3 4), .inl (k 0, 40, .inl (fun _ => 0))), ((u3 5), .inr (2, [.ref (u3 6), .int 0, .int 0])), ((u3 6), .inl (k 0, 3, .inl (fun _ => 0))), ((u3 7), .inr (2, [.ref (u3 8), .int 0, .int 0])), ((u3 8), .inl (k 0, 3, .inl (fun _ => 0))), ((u3 9), .inr (2, [.ref (u3 10), .int 0, .int 0])), ((u3 10), .inl (k 0, 3, .inl (fun _ => 0))), ((u3 11), .inr (2, [.ref (u3 12), .int 0, .int 0])), ((u3 12), .inl (k 0, 3, .inl (fun _ => 0))), ((u3 13), .inr (2, [.ref (u3 14), .int 0, .int 0])), ((u3 14), .inl (k 0, 3, .inl (fun _ => 0))), (q5, .inr (3, [.ref (u6 0), .ref (u6 1), .ref (u6 3), .ref (u6 5), .ref (u6 7), .ref (u6 9), .int 0, .int 0])), ((u6 0), .inl (k 4, 4, .inr (.inr (.inr (.inr (va_up (va_up (va_up (va_up (fun _ => none) 0 (some (u6 11))) 1 (some (u6 13))) 2 (some (u6 15))) 3 (some (u6 17)))))))), ((u6 1), .inr (2, [.ref (u6 2), .int 0, .int 0])), ((u6 2), .inl (k 0, 3, .inl (fun _ => 0))), ((u6 3), .inr (2, [.ref (u6 4), .int 0, .int 0])), ((u6 4), .inl (k 0, 3, .inl (fun _ => 0))), ((u6 5), .inr (2, [.ref (u6 6), .int 0, .int 0])), ((u6 6), .inl (k 0, 3, .inl (fun _ => 0))), ((u6 7), .inr (2, [.ref (u6 8), .int 0, .int 0])), ((u6 8), .inl (k 0, 3, .inl (fun _ => 0))), ((u6 9), .inr (2, [.ref (u6 10), .int 0, .int 0])), ((u6 10), .inl (k 0, 3, .inl (fun _ => 0))), ((u6 11), .inr (2, [.ref (u6 12), .int 0, .int 0])), ((u6 12), .inl (k 0, 3, .inl (fun _ => 0))), ((u6 13), .inr (2, [.ref (u6 14), .int 0, .int 0])), ((u6 14), .inl (k 0, 3, .inl (fun _ => 0))), ((u6 15), .inr (2, [.ref (u6 16), .int 0, .int 0])), ((u6 16), .inl (k 0, 3, .inl (fun _ => 0))), ((u6 17), .inr (2, [.ref (u6 18), .int 0, .int 0])), ((u6 18), .inl (k 0, 3, .inl (fun _ => 0)))]) rfl rfl d_PB_init_37 (fun H locs S => ?_)
  refine lv_iconst (v := 0) hx hb d_PB_init_40 (by decide) ?_
  refine lv_istore_n (lv' := [(1, .int 0), (0, .ref h0)]) hx hb d_PB_init_41 rfl hl (by decide) rfl (fun ls hl => ?_)
  refine lv_iload_n hx hb d_PB_init_42 rfl (lv_at hl 0 rfl) ?_
  refine lv_iconst (v := 4) hx hb d_PB_init_43 (by decide) ?_
  refine lv_icmp_ge (tgt := 66) hx hb d_PB_init_44 (by decide) (fun hq => absurd hq (by decide)) (fun _ => ?_)
  refine lv_aload_n hx hb d_PB_init_47 rfl (lv_at hl 1 rfl) ?_
  refine r_get C K S 0 rfl rfl clOk_PB 0 (by decide) wf_PB_11 (v := .ref q1) rfl d_PB_init_48 ?_
  refine lv_iload_n hx hb d_PB_init_51 rfl (lv_at hl 0 rfl) ?_
  refine r_new C K S hA 4 rfl clOk_Bo wl_PB_9 wi_Bo wz_Bo t_Bo k_Bo (fs := [.null, .null, .null, .null, .null, .null, .int 0, .int 0, .int 0]) df_Bo (Nat.le_of_ble_eq_true rfl) (Nat.le_of_ble_eq_true rfl) d_PB_init_52 (fun q8 H S => ?_)
  have S : Sw G A s.heap _ _ [(h0, .inr (0, [.ref q1, .null, .null, .null, .ref q2, .ref q5, .int 0, .int (-2), .int 0])), (q1, .inl (k 3, 4, .inr (.inr (.inr (.inr (fun _ => none)))))), (q2, .inr (1, [.ref (u3 0), .ref (u3 1), .ref (u3 2), .ref (u3 3), .ref (u3 4), .ref (u3 5), .ref (u3 7), .ref (u3 9), .ref (u3 11), .ref (u3 13), .int 0, .int 0, .int 0, .int 0])), ((u3 0), .inl (k 4, 3731, .inr (.inr (.inr (.inr (fun _ => none)))))), ((u3 1), .inl (k 0, 40, .inl (fun _ => 0))), ((u3 2), .inl (k 0, 40, .inl (fun _ => 0))), ((u3 3), .inl (k 0, 91, .inl (fun _ => 0))), ((u3 4), .inl (k 0, 40, .inl (fun _ => 0))), ((u3 5), .inr (2, [.ref (u3 6), .int 0, .int 0])), ((u3 6), .inl (k 0, 3, .inl (fun _ => 0))), ((u3 7), .inr (2, [.ref (u3 8), .int 0, .int 0])), ((u3 8), .inl (k 0, 3, .inl (fun _ => 0))), ((u3 9), .inr (2, [.ref (u3 10), .int 0, .int 0])), ((u3 10), .inl (k 0, 3, .inl (fun _ => 0))), ((u3 11), .inr (2, [.ref (u3 12), .int 0, .int 0])), ((u3 12), .inl (k 0, 3, .inl (fun _ => 0))), ((u3 13), .inr (2, [.ref (u3 14), .int 0, .int 0])), ((u3 14), .inl (k 0, 3, .inl (fun _ => 0))), (q5, .inr (3, [.ref (u6 0), .ref (u6 1), .ref (u6 3), .ref (u6 5), .ref (u6 7), .ref (u6 9), .int 0, .int 0])), ((u6 0), .inl (k 4, 4, .inr (.inr (.inr (.inr (va_up (va_up (va_up (va_up (fun _ => none) 0 (some (u6 11))) 1 (some (u6 13))) 2 (some (u6 15))) 3 (some (u6 17)))))))), ((u6 1), .inr (2, [.ref (u6 2), .int 0, .int 0])), ((u6 2), .inl (k 0, 3, .inl (fun _ => 0))), ((u6 3), .inr (2, [.ref (u6 4), .int 0, .int 0])), ((u6 4), .inl (k 0, 3, .inl (fun _ => 0))), ((u6 5), .inr (2, [.ref (u6 6), .int 0, .int 0])), ((u6 6), .inl (k 0, 3, .inl (fun _ => 0))), ((u6 7), .inr (2, [.ref (u6 8), .int 0, .int 0])), ((u6 8), .inl (k 0, 3, .inl (fun _ => 0))), ((u6 9), .inr (2, [.ref (u6 10), .int 0, .int 0])), ((u6 10), .inl (k 0, 3, .inl (fun _ => 0))), ((u6 11), .inr (2, [.ref (u6 12), .int 0, .int 0])), ((u6 12), .inl (k 0, 3, .inl (fun _ => 0))), ((u6 13), .inr (2, [.ref (u6 14), .int 0, .int 0])), ((u6 14), .inl (k 0, 3, .inl (fun _ => 0))), ((u6 15), .inr (2, [.ref (u6 16), .int 0, .int 0])), ((u6 16), .inl (k 0, 3, .inl (fun _ => 0))), ((u6 17), .inr (2, [.ref (u6 18), .int 0, .int 0])), ((u6 18), .inl (k 0, 3, .inl (fun _ => 0))), (q8, .inr (4, [.null, .null, .null, .null, .null, .null, .int 0, .int 0, .int 0]))] := S
  refine lv_dup hx hb d_PB_init_55 rfl ?_
  refine r_backv (wi := [(q8, .inr (4, [.null, .null, .null, .null, .null, .null, .int 0, .int 0, .int 0]))]) (wr := [(h0, .inr (0, [.ref q1, .null, .null, .null, .ref q2, .ref q5, .int 0, .int (-2), .int 0])), (q1, .inl (k 3, 4, .inr (.inr (.inr (.inr (fun _ => none)))))), (q2, .inr (1, [.ref (u3 0), .ref (u3 1), .ref (u3 2), .ref (u3 3), .ref (u3 4), .ref (u3 5), .ref (u3 7), .ref (u3 9), .ref (u3 11), .ref (u3 13), .int 0, .int 0, .int 0, .int 0])), ((u3 0), .inl (k 4, 3731, .inr (.inr (.inr (.inr (fun _ => none)))))), ((u3 1), .inl (k 0, 40, .inl (fun _ => 0))), ((u3 2), .inl (k 0, 40, .inl (fun _ => 0))), ((u3 3), .inl (k 0, 91, .inl (fun _ => 0))), ((u3 4), .inl (k 0, 40, .inl (fun _ => 0))), ((u3 5), .inr (2, [.ref (u3 6), .int 0, .int 0])), ((u3 6), .inl (k 0, 3, .inl (fun _ => 0))), ((u3 7), .inr (2, [.ref (u3 8), .int 0, .int 0])), ((u3 8), .inl (k 0, 3, .inl (fun _ => 0))), ((u3 9), .inr (2, [.ref (u3 10), .int 0, .int 0])), ((u3 10), .inl (k 0, 3, .inl (fun _ => 0))), ((u3 11), .inr (2, [.ref (u3 12), .int 0, .int 0])), ((u3 12), .inl (k 0, 3, .inl (fun _ => 0))), ((u3 13), .inr (2, [.ref (u3 14), .int 0, .int 0])), ((u3 14), .inl (k 0, 3, .inl (fun _ => 0))), (q5, .inr (3, [.ref (u6 0), .ref (u6 1), .ref (u6 3), .ref (u6 5), .ref (u6 7), .ref (u6 9), .int 0, .int 0])), ((u6 0), .inl (k 4, 4, .inr (.inr (.inr (.inr (va_up (va_up (va_up (va_up (fun _ => none) 0 (some (u6 11))) 1 (some (u6 13))) 2 (some (u6 15))) 3 (some (u6 17)))))))), ((u6 1), .inr (2, [.ref (u6 2), .int 0, .int 0])), ((u6 2), .inl (k 0, 3, .inl (fun _ => 0))), ((u6 3), .inr (2, [.ref (u6 4), .int 0, .int 0])), ((u6 4), .inl (k 0, 3, .inl (fun _ => 0))), ((u6 5), .inr (2, [.ref (u6 6), .int 0, .int 0])), ((u6 6), .inl (k 0, 3, .inl (fun _ => 0))), ((u6 7), .inr (2, [.ref (u6 8), .int 0, .int 0])), ((u6 8), .inl (k 0, 3, .inl (fun _ => 0))), ((u6 9), .inr (2, [.ref (u6 10), .int 0, .int 0])), ((u6 10), .inl (k 0, 3, .inl (fun _ => 0))), ((u6 11), .inr (2, [.ref (u6 12), .int 0, .int 0])), ((u6 12), .inl (k 0, 3, .inl (fun _ => 0))), ((u6 13), .inr (2, [.ref (u6 14), .int 0, .int 0])), ((u6 14), .inl (k 0, 3, .inl (fun _ => 0))), ((u6 15), .inr (2, [.ref (u6 16), .int 0, .int 0])), ((u6 16), .inl (k 0, 3, .inl (fun _ => 0))), ((u6 17), .inr (2, [.ref (u6 18), .int 0, .int 0])), ((u6 18), .inl (k 0, 3, .inl (fun _ => 0)))]) S hA [38] [0, 1, 2, 3, 4, 5, 6, 7, 8, 9, 10, 11, 12, 13, 14, 15, 16, 17, 18, 19, 20, 21, 22, 23, 24, 25, 26, 27, 28, 29, 30, 31, 32, 33, 34, 35, 36, 37] rfl rfl (by decide) (by decide) (va_runIN (As := []) (rest := [.ref q8, .int 0, .ref q1]) ⟨hx, hb, C.2.2.1, C.2.2.2.1, C.2.2.2.2.1⟩ (k_Bo_init l G k q8 _) (k_ctorN (n := 0) C K wc_Bo_init rfl rfl wz_Bo xm_PB_33 wn_Bo_init rfl (by decide +kernel) ⟨(Nat.le_of_ble_eq_true rfl), (Nat.le_of_ble_eq_true rfl)⟩) (pr_now K S [38] (by decide) rfl) rfl rfl hl.1 rfl (lv_room (Nat.le_of_ble_eq_true rfl)) d_PB_init_56 ⟨(Nat.le_of_ble_eq_true rfl), (Nat.le_of_ble_eq_true rfl)⟩) (fun u9 H locs hw10 S => ?_)
  have S : Sw G A s.heap _ _ [(h0, .inr (0, [.ref q1, .null, .null, .null, .ref q2, .ref q5, .int 0, .int (-2), .int 0])), (q1, .inl (k 3, 4, .inr (.inr (.inr (.inr (fun _ => none)))))), (q2, .inr (1, [.ref (u3 0), .ref (u3 1), .ref (u3 2), .ref (u3 3), .ref (u3 4), .ref (u3 5), .ref (u3 7), .ref (u3 9), .ref (u3 11), .ref (u3 13), .int 0, .int 0, .int 0, .int 0])), ((u3 0), .inl (k 4, 3731, .inr (.inr (.inr (.inr (fun _ => none)))))), ((u3 1), .inl (k 0, 40, .inl (fun _ => 0))), ((u3 2), .inl (k 0, 40, .inl (fun _ => 0))), ((u3 3), .inl (k 0, 91, .inl (fun _ => 0))), ((u3 4), .inl (k 0, 40, .inl (fun _ => 0))), ((u3 5), .inr (2, [.ref (u3 6), .int 0, .int 0])), ((u3 6), .inl (k 0, 3, .inl (fun _ => 0))), ((u3 7), .inr (2, [.ref (u3 8), .int 0, .int 0])), ((u3 8), .inl (k 0, 3, .inl (fun _ => 0))), ((u3 9), .inr (2, [.ref (u3 10), .int 0, .int 0])), ((u3 10), .inl (k 0, 3, .inl (fun _ => 0))), ((u3 11), .inr (2, [.ref (u3 12), .int 0, .int 0])), ((u3 12), .inl (k 0, 3, .inl (fun _ => 0))), ((u3 13), .inr (2, [.ref (u3 14), .int 0, .int 0])), ((u3 14), .inl (k 0, 3, .inl (fun _ => 0))), (q5, .inr (3, [.ref (u6 0), .ref (u6 1), .ref (u6 3), .ref (u6 5), .ref (u6 7), .ref (u6 9), .int 0, .int 0])), ((u6 0), .inl (k 4, 4, .inr (.inr (.inr (.inr (va_up (va_up (va_up (va_up (fun _ => none) 0 (some (u6 11))) 1 (some (u6 13))) 2 (some (u6 15))) 3 (some (u6 17)))))))), ((u6 1), .inr (2, [.ref (u6 2), .int 0, .int 0])), ((u6 2), .inl (k 0, 3, .inl (fun _ => 0))), ((u6 3), .inr (2, [.ref (u6 4), .int 0, .int 0])), ((u6 4), .inl (k 0, 3, .inl (fun _ => 0))), ((u6 5), .inr (2, [.ref (u6 6), .int 0, .int 0])), ((u6 6), .inl (k 0, 3, .inl (fun _ => 0))), ((u6 7), .inr (2, [.ref (u6 8), .int 0, .int 0])), ((u6 8), .inl (k 0, 3, .inl (fun _ => 0))), ((u6 9), .inr (2, [.ref (u6 10), .int 0, .int 0])), ((u6 10), .inl (k 0, 3, .inl (fun _ => 0))), ((u6 11), .inr (2, [.ref (u6 12), .int 0, .int 0])), ((u6 12), .inl (k 0, 3, .inl (fun _ => 0))), ((u6 13), .inr (2, [.ref (u6 14), .int 0, .int 0])), ((u6 14), .inl (k 0, 3, .inl (fun _ => 0))), ((u6 15), .inr (2, [.ref (u6 16), .int 0, .int 0])), ((u6 16), .inl (k 0, 3, .inl (fun _ => 0))), ((u6 17), .inr (2, [.ref (u6 18), .int 0, .int 0])), ((u6 18), .inl (k 0, 3, .inl (fun _ => 0))), (q8, .inr (4, [.ref (u9 0), .ref (u9 1), .ref (u9 2), .ref (u9 3), .ref (u9 4), .ref (u9 5), .int 0, .int 0, .int 0])), ((u9 0), .inl (k 0, 200, .inl (fun _ => 0))), ((u9 1), .inl (k 0, 40, .inl (fun _ => 0))), ((u9 2), .inl (k 0, 40, .inl (fun _ => 0))), ((u9 3), .inl (k 0, 40, .inl (fun _ => 0))), ((u9 4), .inl (k 0, 40, .inl (fun _ => 0))), ((u9 5), .inl (k 0, 40, .inl (fun _ => 0)))] := S
  refine r_aast C K S 1 3 38 4 rfl rfl rfl rfl (i := 0) (by unfold vp_in; decide) (f' := va_up (fun _ => none) 0 (some q8)) (ws' := [(h0, .inr (0, [.ref q1, .null, .null, .null, .ref q2, .ref q5, .int 0, .int (-2), .int 0])), (q1, .inl (k 3, 4, .inr (.inr (.inr (.inr (va_up (fun _ => none) 0 (some q8))))))), (q2, .inr (1, [.ref (u3 0), .ref (u3 1), .ref (u3 2), .ref (u3 3), .ref (u3 4), .ref (u3 5), .ref (u3 7), .ref (u3 9), .ref (u3 11), .ref (u3 13), .int 0, .int 0, .int 0, .int 0])), ((u3 0), .inl (k 4, 3731, .inr (.inr (.inr (.inr (fun _ => none)))))), ((u3 1), .inl (k 0, 40, .inl (fun _ => 0))), ((u3 2), .inl (k 0, 40, .inl (fun _ => 0))), ((u3 3), .inl (k 0, 91, .inl (fun _ => 0))), ((u3 4), .inl (k 0, 40, .inl (fun _ => 0))), ((u3 5), .inr (2, [.ref (u3 6), .int 0, .int 0])), ((u3 6), .inl (k 0, 3, .inl (fun _ => 0))), ((u3 7), .inr (2, [.ref (u3 8), .int 0, .int 0])), ((u3 8), .inl (k 0, 3, .inl (fun _ => 0))), ((u3 9), .inr (2, [.ref (u3 10), .int 0, .int 0])), ((u3 10), .inl (k 0, 3, .inl (fun _ => 0))), ((u3 11), .inr (2, [.ref (u3 12), .int 0, .int 0])), ((u3 12), .inl (k 0, 3, .inl (fun _ => 0))), ((u3 13), .inr (2, [.ref (u3 14), .int 0, .int 0])), ((u3 14), .inl (k 0, 3, .inl (fun _ => 0))), (q5, .inr (3, [.ref (u6 0), .ref (u6 1), .ref (u6 3), .ref (u6 5), .ref (u6 7), .ref (u6 9), .int 0, .int 0])), ((u6 0), .inl (k 4, 4, .inr (.inr (.inr (.inr (va_up (va_up (va_up (va_up (fun _ => none) 0 (some (u6 11))) 1 (some (u6 13))) 2 (some (u6 15))) 3 (some (u6 17)))))))), ((u6 1), .inr (2, [.ref (u6 2), .int 0, .int 0])), ((u6 2), .inl (k 0, 3, .inl (fun _ => 0))), ((u6 3), .inr (2, [.ref (u6 4), .int 0, .int 0])), ((u6 4), .inl (k 0, 3, .inl (fun _ => 0))), ((u6 5), .inr (2, [.ref (u6 6), .int 0, .int 0])), ((u6 6), .inl (k 0, 3, .inl (fun _ => 0))), ((u6 7), .inr (2, [.ref (u6 8), .int 0, .int 0])), ((u6 8), .inl (k 0, 3, .inl (fun _ => 0))), ((u6 9), .inr (2, [.ref (u6 10), .int 0, .int 0])), ((u6 10), .inl (k 0, 3, .inl (fun _ => 0))), ((u6 11), .inr (2, [.ref (u6 12), .int 0, .int 0])), ((u6 12), .inl (k 0, 3, .inl (fun _ => 0))), ((u6 13), .inr (2, [.ref (u6 14), .int 0, .int 0])), ((u6 14), .inl (k 0, 3, .inl (fun _ => 0))), ((u6 15), .inr (2, [.ref (u6 16), .int 0, .int 0])), ((u6 16), .inl (k 0, 3, .inl (fun _ => 0))), ((u6 17), .inr (2, [.ref (u6 18), .int 0, .int 0])), ((u6 18), .inl (k 0, 3, .inl (fun _ => 0))), (q8, .inr (4, [.ref (u9 0), .ref (u9 1), .ref (u9 2), .ref (u9 3), .ref (u9 4), .ref (u9 5), .int 0, .int 0, .int 0])), ((u9 0), .inl (k 0, 200, .inl (fun _ => 0))), ((u9 1), .inl (k 0, 40, .inl (fun _ => 0))), ((u9 2), .inl (k 0, 40, .inl (fun _ => 0))), ((u9 3), .inl (k 0, 40, .inl (fun _ => 0))), ((u9 4), .inl (k 0, 40, .inl (fun _ => 0))), ((u9 5), .inl (k 0, 40, .inl (fun _ => 0)))]) rfl rfl d_PB_init_59 (fun H locs S => ?_)
  refine lv_iinc (v := 1) (lv' := [(1, .int 1), (0, .ref h0)]) hx hb d_PB_init_60 hl (k := 0) rfl (by decide) (by decide) rfl (fun ls hl => ?_)
  refine lv_goto (tgt := 42) hx hb d_PB_init_63 (by decide) ?_
  refine lv_iload_n hx hb d_PB_init_42 rfl (lv_at hl 0 rfl) ?_
  refine lv_iconst (v := 4) hx hb d_PB_init_43 (by decide) ?_
  refine lv_icmp_ge (tgt := 66) hx hb d_PB_init_44 (by decide) (fun hq => absurd hq (by decide)) (fun _ => ?_)
  refine lv_aload_n hx hb d_PB_init_47 rfl (lv_at hl 1 rfl) ?_
  refine r_get C K S 0 rfl rfl clOk_PB 0 (by decide) wf_PB_11 (v := .ref q1) rfl d_PB_init_48 ?_
  refine lv_iload_n hx hb d_PB_init_51 rfl (lv_at hl 0 rfl) ?_
  refine r_new C K S hA 4 rfl clOk_Bo wl_PB_9 wi_Bo wz_Bo t_Bo k_Bo (fs := [.null, .null, .null, .null, .null, .null, .int 0, .int 0, .int 0]) df_Bo (Nat.le_of_ble_eq_true rfl) (Nat.le_of_ble_eq_true rfl) d_PB_init_52 (fun q11 H S => ?_)
  have S : Sw G A s.heap _ _ [(h0, .inr (0, [.ref q1, .null, .null, .null, .ref q2, .ref q5, .int 0, .int (-2), .int 0])), (q1, .inl (k 3, 4, .inr (.inr (.inr (.inr (va_up (fun _ => none) 0 (some q8))))))), (q2, .inr (1, [.ref (u3 0), .ref (u3 1), .ref (u3 2), .ref (u3 3), .ref (u3 4), .ref (u3 5), .ref (u3 7), .ref (u3 9), .ref (u3 11), .ref (u3 13), .int 0, .int 0, .int 0, .int 0])), ((u3 0), .inl (k 4, 3731, .inr (.inr (.inr (.inr (fun _ => none)))))), ((u3 1), .inl (k 0, 40, .inl (fun _ => 0))), ((u3 2), .inl (k 0, 40, .inl (fun _ => 0))), ((u3 3), .inl (k 0, 91, .inl (fun _ => 0))), ((u3 4), .inl (k 0, 40, .inl (fun _ => 0))), ((u3 5), .inr (2, [.ref (u3 6), .int 0, .int 0])), ((u3 6), .inl (k 0, 3, .inl (fun _ => 0))), ((u3 7), .inr (2, [.ref (u3 8), .int 0, .int 0])), ((u3 8), .inl (k 0, 3, .inl (fun _ => 0))), ((u3 9), .inr (2, [.ref (u3 10), .int 0, .int 0])), ((u3 10), .inl (k 0, 3, .inl (fun _ => 0))), ((u3 11), .inr (2, [.ref (u3 12), .int 0, .int 0])), ((u3 12), .inl (k 0, 3, .inl (fun _ => 0))), ((u3 13), .inr (2, [.ref (u3 14), .int 0, .int 0])), ((u3 14), .inl (k 0, 3, .inl (fun _ => 0))), (q5, .inr (3, [.ref (u6 0), .ref (u6 1), .ref (u6 3), .ref (u6 5), .ref (u6 7), .ref (u6 9), .int 0, .int 0])), ((u6 0), .inl (k 4, 4, .inr (.inr (.inr (.inr (va_up (va_up (va_up (va_up (fun _ => none) 0 (some (u6 11))) 1 (some (u6 13))) 2 (some (u6 15))) 3 (some (u6 17)))))))), ((u6 1), .inr (2, [.ref (u6 2), .int 0, .int 0])), ((u6 2), .inl (k 0, 3, .inl (fun _ => 0))), ((u6 3), .inr (2, [.ref (u6 4), .int 0, .int 0])), ((u6 4), .inl (k 0, 3, .inl (fun _ => 0))), ((u6 5), .inr (2, [.ref (u6 6), .int 0, .int 0])), ((u6 6), .inl (k 0, 3, .inl (fun _ => 0))), ((u6 7), .inr (2, [.ref (u6 8), .int 0, .int 0])), ((u6 8), .inl (k 0, 3, .inl (fun _ => 0))), ((u6 9), .inr (2, [.ref (u6 10), .int 0, .int 0])), ((u6 10), .inl (k 0, 3, .inl (fun _ => 0))), ((u6 11), .inr (2, [.ref (u6 12), .int 0, .int 0])), ((u6 12), .inl (k 0, 3, .inl (fun _ => 0))), ((u6 13), .inr (2, [.ref (u6 14), .int 0, .int 0])), ((u6 14), .inl (k 0, 3, .inl (fun _ => 0))), ((u6 15), .inr (2, [.ref (u6 16), .int 0, .int 0])), ((u6 16), .inl (k 0, 3, .inl (fun _ => 0))), ((u6 17), .inr (2, [.ref (u6 18), .int 0, .int 0])), ((u6 18), .inl (k 0, 3, .inl (fun _ => 0))), (q8, .inr (4, [.ref (u9 0), .ref (u9 1), .ref (u9 2), .ref (u9 3), .ref (u9 4), .ref (u9 5), .int 0, .int 0, .int 0])), ((u9 0), .inl (k 0, 200, .inl (fun _ => 0))), ((u9 1), .inl (k 0, 40, .inl (fun _ => 0))), ((u9 2), .inl (k 0, 40, .inl (fun _ => 0))), ((u9 3), .inl (k 0, 40, .inl (fun _ => 0))), ((u9 4), .inl (k 0, 40, .inl (fun _ => 0))), ((u9 5), .inl (k 0, 40, .inl (fun _ => 0))), (q11, .inr (4, [.null, .null, .null, .null, .null, .null, .int 0, .int 0, .int 0]))] := S
  refine lv_dup hx hb d_PB_init_55 rfl ?_
  refine r_backv (wi := [(q11, .inr (4, [.null, .null, .null, .null, .null, .null, .int 0, .int 0, .int 0]))]) (wr := [(h0, .inr (0, [.ref q1, .null, .null, .null, .ref q2, .ref q5, .int 0, .int (-2), .int 0])), (q1, .inl (k 3, 4, .inr (.inr (.inr (.inr (va_up (fun _ => none) 0 (some q8))))))), (q2, .inr (1, [.ref (u3 0), .ref (u3 1), .ref (u3 2), .ref (u3 3), .ref (u3 4), .ref (u3 5), .ref (u3 7), .ref (u3 9), .ref (u3 11), .ref (u3 13), .int 0, .int 0, .int 0, .int 0])), ((u3 0), .inl (k 4, 3731, .inr (.inr (.inr (.inr (fun _ => none)))))), ((u3 1), .inl (k 0, 40, .inl (fun _ => 0))), ((u3 2), .inl (k 0, 40, .inl (fun _ => 0))), ((u3 3), .inl (k 0, 91, .inl (fun _ => 0))), ((u3 4), .inl (k 0, 40, .inl (fun _ => 0))), ((u3 5), .inr (2, [.ref (u3 6), .int 0, .int 0])), ((u3 6), .inl (k 0, 3, .inl (fun _ => 0))), ((u3 7), .inr (2, [.ref (u3 8), .int 0, .int 0])), ((u3 8), .inl (k 0, 3, .inl (fun _ => 0))), ((u3 9), .inr (2, [.ref (u3 10), .int 0, .int 0])), ((u3 10), .inl (k 0, 3, .inl (fun _ => 0))), ((u3 11), .inr (2, [.ref (u3 12), .int 0, .int 0])), ((u3 12), .inl (k 0, 3, .inl (fun _ => 0))), ((u3 13), .inr (2, [.ref (u3 14), .int 0, .int 0])), ((u3 14), .inl (k 0, 3, .inl (fun _ => 0))), (q5, .inr (3, [.ref (u6 0), .ref (u6 1), .ref (u6 3), .ref (u6 5), .ref (u6 7), .ref (u6 9), .int 0, .int 0])), ((u6 0), .inl (k 4, 4, .inr (.inr (.inr (.inr (va_up (va_up (va_up (va_up (fun _ => none) 0 (some (u6 11))) 1 (some (u6 13))) 2 (some (u6 15))) 3 (some (u6 17)))))))), ((u6 1), .inr (2, [.ref (u6 2), .int 0, .int 0])), ((u6 2), .inl (k 0, 3, .inl (fun _ => 0))), ((u6 3), .inr (2, [.ref (u6 4), .int 0, .int 0])), ((u6 4), .inl (k 0, 3, .inl (fun _ => 0))), ((u6 5), .inr (2, [.ref (u6 6), .int 0, .int 0])), ((u6 6), .inl (k 0, 3, .inl (fun _ => 0))), ((u6 7), .inr (2, [.ref (u6 8), .int 0, .int 0])), ((u6 8), .inl (k 0, 3, .inl (fun _ => 0))), ((u6 9), .inr (2, [.ref (u6 10), .int 0, .int 0])), ((u6 10), .inl (k 0, 3, .inl (fun _ => 0))), ((u6 11), .inr (2, [.ref (u6 12), .int 0, .int 0])), ((u6 12), .inl (k 0, 3, .inl (fun _ => 0))), ((u6 13), .inr (2, [.ref (u6 14), .int 0, .int 0])), ((u6 14), .inl (k 0, 3, .inl (fun _ => 0))), ((u6 15), .inr (2, [.ref (u6 16), .int 0, .int 0])), ((u6 16), .inl (k 0, 3, .inl (fun _ => 0))), ((u6 17), .inr (2, [.ref (u6 18), .int 0, .int 0])), ((u6 18), .inl (k 0, 3, .inl (fun _ => 0))), (q8, .inr (4, [.ref (u9 0), .ref (u9 1), .ref (u9 2), .ref (u9 3), .ref (u9 4), .ref (u9 5), .int 0, .int 0, .int 0])), ((u9 0), .inl (k 0, 200, .inl (fun _ => 0))), ((u9 1), .inl (k 0, 40, .inl (fun _ => 0))), ((u9 2), .inl (k 0, 40, .inl (fun _ => 0))), ((u9 3), .inl (k 0, 40, .inl (fun _ => 0))), ((u9 4), .inl (k 0, 40, .inl (fun _ => 0))), ((u9 5), .inl (k 0, 40, .inl (fun _ => 0)))]) S hA [45] [0, 1, 2, 3, 4, 5, 6, 7, 8, 9, 10, 11, 12, 13, 14, 15, 16, 17, 18, 19, 20, 21, 22, 23, 24, 25, 26, 27, 28, 29, 30, 31, 32, 33, 34, 35, 36, 37, 38, 39, 40, 41, 42, 43, 44] rfl rfl (by decide) (by decide) (va_runIN (As := []) (rest := [.ref q11, .int 1, .ref q1]) ⟨hx, hb, C.2.2.1, C.2.2.2.1, C.2.2.2.2.1⟩ (k_Bo_init l G k q11 _) (k_ctorN (n := 0) C K wc_Bo_init rfl rfl wz_Bo xm_PB_33 wn_Bo_init rfl (by decide +kernel) ⟨(Nat.le_of_ble_eq_true rfl), (Nat.le_of_ble_eq_true rfl)⟩) (pr_now K S [45] (by decide) rfl) rfl rfl hl.1 rfl (lv_room (Nat.le_of_ble_eq_true rfl)) d_PB_init_56 ⟨(Nat.le_of_ble_eq_true rfl), (Nat.le_of_ble_eq_true rfl)⟩) (fun u12 H locs hw13 S => ?_)
  have S : Sw G A s.heap _ _ [(h0, .inr (0, [.ref q1, .null, .null, .null, .ref q2, .ref q5, .int 0, .int (-2), .int 0])), (q1, .inl (k 3, 4, .inr (.inr (.inr (.inr (va_up (fun _ => none) 0 (some q8))))))), (q2, .inr (1, [.ref (u3 0), .ref (u3 1), .ref (u3 2), .ref (u3 3), .ref (u3 4), .ref (u3 5), .ref (u3 7), .ref (u3 9), .ref (u3 11), .ref (u3 13), .int 0, .int 0, .int 0, .int 0])), ((u3 0), .inl (k 4, 3731, .inr (.inr (.inr (.inr (fun _ => none)))))), ((u3 1), .inl (k 0, 40, .inl (fun _ => 0))), ((u3 2), .inl (k 0, 40, .inl (fun _ => 0))), ((u3 3), .inl (k 0, 91, .inl (fun _ => 0))), ((u3 4), .inl (k 0, 40, .inl (fun _ => 0))), ((u3 5), .inr (2, [.ref (u3 6), .int 0, .int 0])), ((u3 6), .inl (k 0, 3, .inl (fun _ => 0))), ((u3 7), .inr (2, [.ref (u3 8), .int 0, .int 0])), ((u3 8), .inl (k 0, 3, .inl (fun _ => 0))), ((u3 9), .inr (2, [.ref (u3 10), .int 0, .int 0])), ((u3 10), .inl (k 0, 3, .inl (fun _ => 0))), ((u3 11), .inr (2, [.ref (u3 12), .int 0, .int 0])), ((u3 12), .inl (k 0, 3, .inl (fun _ => 0))), ((u3 13), .inr (2, [.ref (u3 14), .int 0, .int 0])), ((u3 14), .inl (k 0, 3, .inl (fun _ => 0))), (q5, .inr (3, [.ref (u6 0), .ref (u6 1), .ref (u6 3), .ref (u6 5), .ref (u6 7), .ref (u6 9), .int 0, .int 0])), ((u6 0), .inl (k 4, 4, .inr (.inr (.inr (.inr (va_up (va_up (va_up (va_up (fun _ => none) 0 (some (u6 11))) 1 (some (u6 13))) 2 (some (u6 15))) 3 (some (u6 17)))))))), ((u6 1), .inr (2, [.ref (u6 2), .int 0, .int 0])), ((u6 2), .inl (k 0, 3, .inl (fun _ => 0))), ((u6 3), .inr (2, [.ref (u6 4), .int 0, .int 0])), ((u6 4), .inl (k 0, 3, .inl (fun _ => 0))), ((u6 5), .inr (2, [.ref (u6 6), .int 0, .int 0])), ((u6 6), .inl (k 0, 3, .inl (fun _ => 0))), ((u6 7), .inr (2, [.ref (u6 8), .int 0, .int 0])), ((u6 8), .inl (k 0, 3, .inl (fun _ => 0))), ((u6 9), .inr (2, [.ref (u6 10), .int 0, .int 0])), ((u6 10), .inl (k 0, 3, .inl (fun _ => 0))), ((u6 11), .inr (2, [.ref (u6 12), .int 0, .int 0])), ((u6 12), .inl (k 0, 3, .inl (fun _ => 0))), ((u6 13), .inr (2, [.ref (u6 14), .int 0, .int 0])), ((u6 14), .inl (k 0, 3, .inl (fun _ => 0))), ((u6 15), .inr (2, [.ref (u6 16), .int 0, .int 0])), ((u6 16), .inl (k 0, 3, .inl (fun _ => 0))), ((u6 17), .inr (2, [.ref (u6 18), .int 0, .int 0])), ((u6 18), .inl (k 0, 3, .inl (fun _ => 0))), (q8, .inr (4, [.ref (u9 0), .ref (u9 1), .ref (u9 2), .ref (u9 3), .ref (u9 4), .ref (u9 5), .int 0, .int 0, .int 0])), ((u9 0), .inl (k 0, 200, .inl (fun _ => 0))), ((u9 1), .inl (k 0, 40, .inl (fun _ => 0))), ((u9 2), .inl (k 0, 40, .inl (fun _ => 0))), ((u9 3), .inl (k 0, 40, .inl (fun _ => 0))), ((u9 4), .inl (k 0, 40, .inl (fun _ => 0))), ((u9 5), .inl (k 0, 40, .inl (fun _ => 0))), (q11, .inr (4, [.ref (u12 0), .ref (u12 1), .ref (u12 2), .ref (u12 3), .ref (u12 4), .ref (u12 5), .int 0, .int 0, .int 0])), ((u12 0), .inl (k 0, 200, .inl (fun _ => 0))), ((u12 1), .inl (k 0, 40, .inl (fun _ => 0))), ((u12 2), .inl (k 0, 40, .inl (fun _ => 0))), ((u12 3), .inl (k 0, 40, .inl (fun _ => 0))), ((u12 4), .inl (k 0, 40, .inl (fun _ => 0))), ((u12 5), .inl (k 0, 40, .inl (fun _ => 0)))] := S
  refine r_aast C K S 1 3 45 4 rfl rfl rfl rfl (i := 1) (by unfold vp_in; decide) (f' := va_up (va_up (fun _ => none) 0 (some q8)) 1 (some q11)) (ws' := [(h0, .inr (0, [.ref q1, .null, .null, .null, .ref q2, .ref q5, .int 0, .int (-2), .int 0])), (q1, .inl (k 3, 4, .inr (.inr (.inr (.inr (va_up (va_up (fun _ => none) 0 (some q8)) 1 (some q11))))))), (q2, .inr (1, [.ref (u3 0), .ref (u3 1), .ref (u3 2), .ref (u3 3), .ref (u3 4), .ref (u3 5), .ref (u3 7), .ref (u3 9), .ref (u3 11), .ref (u3 13), .int 0, .int 0, .int 0, .int 0])), ((u3 0), .inl (k 4, 3731, .inr (.inr (.inr (.inr (fun _ => none)))))), ((u3 1), .inl (k 0, 40, .inl (fun _ => 0))), ((u3 2), .inl (k 0, 40, .inl (fun _ => 0))), ((u3 3), .inl (k 0, 91, .inl (fun _ => 0))), ((u3 4), .inl (k 0, 40, .inl (fun _ => 0))), ((u3 5), .inr (2, [.ref (u3 6), .int 0, .int 0])), ((u3 6), .inl (k 0, 3, .inl (fun _ => 0))), ((u3 7), .inr (2, [.ref (u3 8), .int 0, .int 0])), ((u3 8), .inl (k 0, 3, .inl (fun _ => 0))), ((u3 9), .inr (2, [.ref (u3 10), .int 0, .int 0])), ((u3 10), .inl (k 0, 3, .inl (fun _ => 0))), ((u3 11), .inr (2, [.ref (u3 12), .int 0, .int 0])), ((u3 12), .inl (k 0, 3, .inl (fun _ => 0))), ((u3 13), .inr (2, [.ref (u3 14), .int 0, .int 0])), ((u3 14), .inl (k 0, 3, .inl (fun _ => 0))), (q5, .inr (3, [.ref (u6 0), .ref (u6 1), .ref (u6 3), .ref (u6 5), .ref (u6 7), .ref (u6 9), .int 0, .int 0])), ((u6 0), .inl (k 4, 4, .inr (.inr (.inr (.inr (va_up (va_up (va_up (va_up (fun _ => none) 0 (some (u6 11))) 1 (some (u6 13))) 2 (some (u6 15))) 3 (some (u6 17)))))))), ((u6 1), .inr (2, [.ref (u6 2), .int 0, .int 0])), ((u6 2), .inl (k 0, 3, .inl (fun _ => 0))), ((u6 3), .inr (2, [.ref (u6 4), .int 0, .int 0])), ((u6 4), .inl (k 0, 3, .inl (fun _ => 0))), ((u6 5), .inr (2, [.ref (u6 6), .int 0, .int 0])), ((u6 6), .inl (k 0, 3, .inl (fun _ => 0))), ((u6 7), .inr (2, [.ref (u6 8), .int 0, .int 0])), ((u6 8), .inl (k 0, 3, .inl (fun _ => 0))), ((u6 9), .inr (2, [.ref (u6 10), .int 0, .int 0])), ((u6 10), .inl (k 0, 3, .inl (fun _ => 0))), ((u6 11), .inr (2, [.ref (u6 12), .int 0, .int 0])), ((u6 12), .inl (k 0, 3, .inl (fun _ => 0))), ((u6 13), .inr (2, [.ref (u6 14), .int 0, .int 0])), ((u6 14), .inl (k 0, 3, .inl (fun _ => 0))), ((u6 15), .inr (2, [.ref (u6 16), .int 0, .int 0])), ((u6 16), .inl (k 0, 3, .inl (fun _ => 0))), ((u6 17), .inr (2, [.ref (u6 18), .int 0, .int 0])), ((u6 18), .inl (k 0, 3, .inl (fun _ => 0))), (q8, .inr (4, [.ref (u9 0), .ref (u9 1), .ref (u9 2), .ref (u9 3), .ref (u9 4), .ref (u9 5), .int 0, .int 0, .int 0])), ((u9 0), .inl (k 0, 200, .inl (fun _ => 0))), ((u9 1), .inl (k 0, 40, .inl (fun _ => 0))), ((u9 2), .inl (k 0, 40, .inl (fun _ => 0))), ((u9 3), .inl (k 0, 40, .inl (fun _ => 0))), ((u9 4), .inl (k 0, 40, .inl (fun _ => 0))), ((u9 5), .inl (k 0, 40, .inl (fun _ => 0))), (q11, .inr (4, [.ref (u12 0), .ref (u12 1), .ref (u12 2), .ref (u12 3), .ref (u12 4), .ref (u12 5), .int 0, .int 0, .int 0])), ((u12 0), .inl (k 0, 200, .inl (fun _ => 0))), ((u12 1), .inl (k 0, 40, .inl (fun _ => 0))), ((u12 2), .inl (k 0, 40, .inl (fun _ => 0))), ((u12 3), .inl (k 0, 40, .inl (fun _ => 0))), ((u12 4), .inl (k 0, 40, .inl (fun _ => 0))), ((u12 5), .inl (k 0, 40, .inl (fun _ => 0)))]) rfl rfl d_PB_init_59 (fun H locs S => ?_)
  refine lv_iinc (v := 2) (lv' := [(1, .int 2), (0, .ref h0)]) hx hb d_PB_init_60 hl (k := 0) rfl (by decide) (by decide) rfl (fun ls hl => ?_)
  refine lv_goto (tgt := 42) hx hb d_PB_init_63 (by decide) ?_
  refine lv_iload_n hx hb d_PB_init_42 rfl (lv_at hl 0 rfl) ?_
  refine lv_iconst (v := 4) hx hb d_PB_init_43 (by decide) ?_
  refine lv_icmp_ge (tgt := 66) hx hb d_PB_init_44 (by decide) (fun hq => absurd hq (by decide)) (fun _ => ?_)
  refine lv_aload_n hx hb d_PB_init_47 rfl (lv_at hl 1 rfl) ?_
  refine r_get C K S 0 rfl rfl clOk_PB 0 (by decide) wf_PB_11 (v := .ref q1) rfl d_PB_init_48 ?_
  refine lv_iload_n hx hb d_PB_init_51 rfl (lv_at hl 0 rfl) ?_
  refine r_new C K S hA 4 rfl clOk_Bo wl_PB_9 wi_Bo wz_Bo t_Bo k_Bo (fs := [.null, .null, .null, .null, .null, .null, .int 0, .int 0, .int 0]) df_Bo (Nat.le_of_ble_eq_true rfl) (Nat.le_of_ble_eq_true rfl) d_PB_init_52 (fun q14 H S => ?_)
  have S : Sw G A s.heap _ _ [(h0, .inr (0, [.ref q1, .null, .null, .null, .ref q2, .ref q5, .int 0, .int (-2), .int 0])), (q1, .inl (k 3, 4, .inr (.inr (.inr (.inr (va_up (va_up (fun _ => none) 0 (some q8)) 1 (some q11))))))), (q2, .inr (1, [.ref (u3 0), .ref (u3 1), .ref (u3 2), .ref (u3 3), .ref (u3 4), .ref (u3 5), .ref (u3 7), .ref (u3 9), .ref (u3 11), .ref (u3 13), .int 0, .int 0, .int 0, .int 0])), ((u3 0), .inl (k 4, 3731, .inr (.inr (.inr (.inr (fun _ => none)))))), ((u3 1), .inl (k 0, 40, .inl (fun _ => 0))), ((u3 2), .inl (k 0, 40, .inl (fun _ => 0))), ((u3 3), .inl (k 0, 91, .inl (fun _ => 0))), ((u3 4), .inl (k 0, 40, .inl (fun _ => 0))), ((u3 5), .inr (2, [.ref (u3 6), .int 0, .int 0])), ((u3 6), .inl (k 0, 3, .inl (fun _ => 0))), ((u3 7), .inr (2, [.ref (u3 8), .int 0, .int 0])), ((u3 8), .inl (k 0, 3, .inl (fun _ => 0))), ((u3 9), .inr (2, [.ref (u3 10), .int 0, .int 0])), ((u3 10), .inl (k 0, 3, .inl (fun _ => 0))), ((u3 11), .inr (2, [.ref (u3 12), .int 0, .int 0])), ((u3 12), .inl (k 0, 3, .inl (fun _ => 0))), ((u3 13), .inr (2, [.ref (u3 14), .int 0, .int 0])), ((u3 14), .inl (k 0, 3, .inl (fun _ => 0))), (q5, .inr (3, [.ref (u6 0), .ref (u6 1), .ref (u6 3), .ref (u6 5), .ref (u6 7), .ref (u6 9), .int 0, .int 0])), ((u6 0), .inl (k 4, 4, .inr (.inr (.inr (.inr (va_up (va_up (va_up (va_up (fun _ => none) 0 (some (u6 11))) 1 (some (u6 13))) 2 (some (u6 15))) 3 (some (u6 17)))))))), ((u6 1), .inr (2, [.ref (u6 2), .int 0, .int 0])), ((u6 2), .inl (k 0, 3, .inl (fun _ => 0))), ((u6 3), .inr (2, [.ref (u6 4), .int 0, .int 0])), ((u6 4), .inl (k 0, 3, .inl (fun _ => 0))), ((u6 5), .inr (2, [.ref (u6 6), .int 0, .int 0])), ((u6 6), .inl (k 0, 3, .inl (fun _ => 0))), ((u6 7), .inr (2, [.ref (u6 8), .int 0, .int 0])), ((u6 8), .inl (k 0, 3, .inl (fun _ => 0))), ((u6 9), .inr (2, [.ref (u6 10), .int 0, .int 0])), ((u6 10), .inl (k 0, 3, .inl (fun _ => 0))), ((u6 11), .inr (2, [.ref (u6 12), .int 0, .int 0])), ((u6 12), .inl (k 0, 3, .inl (fun _ => 0))), ((u6 13), .inr (2, [.ref (u6 14), .int 0, .int 0])), ((u6 14), .inl (k 0, 3, .inl (fun _ => 0))), ((u6 15), .inr (2, [.ref (u6 16), .int 0, .int 0])), ((u6 16), .inl (k 0, 3, .inl (fun _ => 0))), ((u6 17), .inr (2, [.ref (u6 18), .int 0, .int 0])), ((u6 18), .inl (k 0, 3, .inl (fun _ => 0))), (q8, .inr (4, [.ref (u9 0), .ref (u9 1), .ref (u9 2), .ref (u9 3), .ref (u9 4), .ref (u9 5), .int 0, .int 0, .int 0])), ((u9 0), .inl (k 0, 200, .inl (fun _ => 0))), ((u9 1), .inl (k 0, 40, .inl (fun _ => 0))), ((u9 2), .inl (k 0, 40, .inl (fun _ => 0))), ((u9 3), .inl (k 0, 40, .inl (fun _ => 0))), ((u9 4), .inl (k 0, 40, .inl (fun _ => 0))), ((u9 5), .inl (k 0, 40, .inl (fun _ => 0))), (q11, .inr (4, [.ref (u12 0), .ref (u12 1), .ref (u12 2), .ref (u12 3), .ref (u12 4), .ref (u12 5), .int 0, .int 0, .int 0])), ((u12 0), .inl (k 0, 200, .inl (fun _ => 0))), ((u12 1), .inl (k 0, 40, .inl (fun _ => 0))), ((u12 2), .inl (k 0, 40, .inl (fun _ => 0))), ((u12 3), .inl (k 0, 40, .inl (fun _ => 0))), ((u12 4), .inl (k 0, 40, .inl (fun _ => 0))), ((u12 5), .inl (k 0, 40, .inl (fun _ => 0))), (q14, .inr (4, [.null, .null, .null, .null, .null, .null, .int 0, .int 0, .int 0]))] := S
  refine lv_dup hx hb d_PB_init_55 rfl ?_
  refine r_backv (wi := [(q14, .inr (4, [.null, .null, .null, .null, .null, .null, .int 0, .int 0, .int 0]))]) (wr := [(h0, .inr (0, [.ref q1, .null, .null, .null, .ref q2, .ref q5, .int 0, .int (-2), .int 0])), (q1, .inl (k 3, 4, .inr (.inr (.inr (.inr (va_up (va_up (fun _ => none) 0 (some q8)) 1 (some q11))))))), (q2, .inr (1, [.ref (u3 0), .ref (u3 1), .ref (u3 2), .ref (u3 3), .ref (u3 4), .ref (u3 5), .ref (u3 7), .ref (u3 9), .ref (u3 11), .ref (u3 13), .int 0, .int 0, .int 0, .int 0])), ((u3 0), .inl (k 4, 3731, .inr (.inr (.inr (.inr (fun _ => none)))))), ((u3 1), .inl (k 0, 40, .inl (fun _ => 0))), ((u3 2), .inl (k 0, 40, .inl (fun _ => 0))), ((u3 3), .inl (k 0, 91, .inl (fun _ => 0))), ((u3 4), .inl (k 0, 40, .inl (fun _ => 0))), ((u3 5), .inr (2, [.ref (u3 6), .int 0, .int 0])), ((u3 6), .inl (k 0, 3, .inl (fun _ => 0))), ((u3 7), .inr (2, [.ref (u3 8), .int 0, .int 0])), ((u3 8), .inl (k 0, 3, .inl (fun _ => 0))), ((u3 9), .inr (2, [.ref (u3 10), .int 0, .int 0])), ((u3 10), .inl (k 0, 3, .inl (fun _ => 0))), ((u3 11), .inr (2, [.ref (u3 12), .int 0, .int 0])), ((u3 12), .inl (k 0, 3, .inl (fun _ => 0))), ((u3 13), .inr (2, [.ref (u3 14), .int 0, .int 0])), ((u3 14), .inl (k 0, 3, .inl (fun _ => 0))), (q5, .inr (3, [.ref (u6 0), .ref (u6 1), .ref (u6 3), .ref (u6 5), .ref (u6 7), .ref (u6 9), .int 0, .int 0])), ((u6 0), .inl (k 4, 4, .inr (.inr (.inr (.inr (va_up (va_up (va_up (va_up (fun _ => none) 0 (some (u6 11))) 1 (some (u6 13))) 2 (some (u6 15))) 3 (some (u6 17)))))))), ((u6 1), .inr (2, [.ref (u6 2), .int 0, .int 0])), ((u6 2), .inl (k 0, 3, .inl (fun _ => 0))), ((u6 3), .inr (2, [.ref (u6 4), .int 0, .int 0])), ((u6 4), .inl (k 0, 3, .inl (fun _ => 0))), ((u6 5), .inr (2, [.ref (u6 6), .int 0, .int 0])), ((u6 6), .inl (k 0, 3, .inl (fun _ => 0))), ((u6 7), .inr (2, [.ref (u6 8), .int 0, .int 0])), ((u6 8), .inl (k 0, 3, .inl (fun _ => 0))), ((u6 9), .inr (2, [.ref (u6 10), .int 0, .int 0])), ((u6 10), .inl (k 0, 3, .inl (fun _ => 0))), ((u6 11), .inr (2, [.ref (u6 12), .int 0, .int 0])), ((u6 12), .inl (k 0, 3, .inl (fun _ => 0))), ((u6 13), .inr (2, [.ref (u6 14), .int 0, .int 0])), ((u6 14), .inl (k 0, 3, .inl (fun _ => 0))), ((u6 15), .inr (2, [.ref (u6 16), .int 0, .int 0])), ((u6 16), .inl (k 0, 3, .inl (fun _ => 0))), ((u6 17), .inr (2, [.ref (u6 18), .int 0, .int 0])), ((u6 18), .inl (k 0, 3, .inl (fun _ => 0))), (q8, .inr (4, [.ref (u9 0), .ref (u9 1), .ref (u9 2), .ref (u9 3), .ref (u9 4), .ref (u9 5), .int 0, .int 0, .int 0])), ((u9 0), .inl (k 0, 200, .inl (fun _ => 0))), ((u9 1), .inl (k 0, 40, .inl (fun _ => 0))), ((u9 2), .inl (k 0, 40, .inl (fun _ => 0))), ((u9 3), .inl (k 0, 40, .inl (fun _ => 0))), ((u9 4), .inl (k 0, 40, .inl (fun _ => 0))), ((u9 5), .inl (k 0, 40, .inl (fun _ => 0))), (q11, .inr (4, [.ref (u12 0), .ref (u12 1), .ref (u12 2), .ref (u12 3), .ref (u12 4), .ref (u12 5), .int 0, .int 0, .int 0])), ((u12 0), .inl (k 0, 200, .inl (fun _ => 0))), ((u12 1), .inl (k 0, 40, .inl (fun _ => 0))), ((u12 2), .inl (k 0, 40, .inl (fun _ => 0))), ((u12 3), .inl (k 0, 40, .inl (fun _ => 0))), ((u12 4), .inl (k 0, 40, .inl (fun _ => 0))), ((u12 5), .inl (k 0, 40, .inl (fun _ => 0)))]) S hA [52] [0, 1, 2, 3, 4, 5, 6, 7, 8, 9, 10, 11, 12, 13, 14, 15, 16, 17, 18, 19, 20, 21, 22, 23, 24, 25, 26, 27, 28, 29, 30, 31, 32, 33, 34, 35, 36, 37, 38, 39, 40, 41, 42, 43, 44, 45, 46, 47, 48, 49, 50, 51] rfl rfl (by decide) (by decide) (va_runIN (As := []) (rest := [.ref q14, .int 2, .ref q1]) ⟨hx, hb, C.2.2.1, C.2.2.2.1, C.2.2.2.2.1⟩ (k_Bo_init l G k q14 _) (k_ctorN (n := 0) C K wc_Bo_init rfl rfl wz_Bo xm_PB_33 wn_Bo_init rfl (by decide +kernel) ⟨(Nat.le_of_ble_eq_true rfl), (Nat.le_of_ble_eq_true rfl)⟩) (pr_now K S [52] (by decide) rfl) rfl rfl hl.1 rfl (lv_room (Nat.le_of_ble_eq_true rfl)) d_PB_init_56 ⟨(Nat.le_of_ble_eq_true rfl), (Nat.le_of_ble_eq_true rfl)⟩) (fun u15 H locs hw16 S => ?_)
  have S : Sw G A s.heap _ _ [(h0, .inr (0, [.ref q1, .null, .null, .null, .ref q2, .ref q5, .int 0, .int (-2), .int 0])), (q1, .inl (k 3, 4, .inr (.inr (.inr (.inr (va_up (va_up (fun _ => none) 0 (some q8)) 1 (some q11))))))), (q2, .inr (1, [.ref (u3 0), .ref (u3 1), .ref (u3 2), .ref (u3 3), .ref (u3 4), .ref (u3 5), .ref (u3 7), .ref (u3 9), .ref (u3 11), .ref (u3 13), .int 0, .int 0, .int 0, .int 0])), ((u3 0), .inl (k 4, 3731, .inr (.inr (.inr (.inr (fun _ => none)))))), ((u3 1), .inl (k 0, 40, .inl (fun _ => 0))), ((u3 2), .inl (k 0, 40, .inl (fun _ => 0))), ((u3 3), .inl (k 0, 91, .inl (fun _ => 0))), ((u3 4), .inl (k 0, 40, .inl (fun _ => 0))), ((u3 5), .inr (2, [.ref (u3 6), .int 0, .int 0])), ((u3 6), .inl (k 0, 3, .inl (fun _ => 0))), ((u3 7), .inr (2, [.ref (u3 8), .int 0, .int 0])), ((u3 8), .inl (k 0, 3, .inl (fun _ => 0))), ((u3 9), .inr (2, [.ref (u3 10), .int 0, .int 0])), ((u3 10), .inl (k 0, 3, .inl (fun _ => 0))), ((u3 11), .inr (2, [.ref (u3 12), .int 0, .int 0])), ((u3 12), .inl (k 0, 3, .inl (fun _ => 0))), ((u3 13), .inr (2, [.ref (u3 14), .int 0, .int 0])), ((u3 14), .inl (k 0, 3, .inl (fun _ => 0))), (q5, .inr (3, [.ref (u6 0), .ref (u6 1), .ref (u6 3), .ref (u6 5), .ref (u6 7), .ref (u6 9), .int 0, .int 0])), ((u6 0), .inl (k 4, 4, .inr (.inr (.inr (.inr (va_up (va_up (va_up (va_up (fun _ => none) 0 (some (u6 11))) 1 (some (u6 13))) 2 (some (u6 15))) 3 (some (u6 17)))))))), ((u6 1), .inr (2, [.ref (u6 2), .int 0, .int 0])), ((u6 2), .inl (k 0, 3, .inl (fun _ => 0))), ((u6 3), .inr (2, [.ref (u6 4), .int 0, .int 0])), ((u6 4), .inl (k 0, 3, .inl (fun _ => 0))), ((u6 5), .inr (2, [.ref (u6 6), .int 0, .int 0])), ((u6 6), .inl (k 0, 3, .inl (fun _ => 0))), ((u6 7), .inr (2, [.ref (u6 8), .int 0, .int 0])), ((u6 8), .inl (k 0, 3, .inl (fun _ => 0))), ((u6 9), .inr (2, [.ref (u6 10), .int 0, .int 0])), ((u6 10), .inl (k 0, 3, .inl (fun _ => 0))), ((u6 11), .inr (2, [.ref (u6 12), .int 0, .int 0])), ((u6 12), .inl (k 0, 3, .inl (fun _ => 0))), ((u6 13), .inr (2, [.ref (u6 14), .int 0, .int 0])), ((u6 14), .inl (k 0, 3, .inl (fun _ => 0))), ((u6 15), .inr (2, [.ref (u6 16), .int 0, .int 0])), ((u6 16), .inl (k 0, 3, .inl (fun _ => 0))), ((u6 17), .inr (2, [.ref (u6 18), .int 0, .int 0])), ((u6 18), .inl (k 0, 3, .inl (fun _ => 0))), (q8, .inr (4, [.ref (u9 0), .ref (u9 1), .ref (u9 2), .ref (u9 3), .ref (u9 4), .ref (u9 5), .int 0, .int 0, .int 0])), ((u9 0), .inl (k 0, 200, .inl (fun _ => 0))), ((u9 1), .inl (k 0, 40, .inl (fun _ => 0))), ((u9 2), .inl (k 0, 40, .inl (fun _ => 0))), ((u9 3), .inl (k 0, 40, .inl (fun _ => 0))), ((u9 4), .inl (k 0, 40, .inl (fun _ => 0))), ((u9 5), .inl (k 0, 40, .inl (fun _ => 0))), (q11, .inr (4, [.ref (u12 0), .ref (u12 1), .ref (u12 2), .ref (u12 3), .ref (u12 4), .ref (u12 5), .int 0, .int 0, .int 0])), ((u12 0), .inl (k 0, 200, .inl (fun _ => 0))), ((u12 1), .inl (k 0, 40, .inl (fun _ => 0))), ((u12 2), .inl (k 0, 40, .inl (fun _ => 0))), ((u12 3), .inl (k 0, 40, .inl (fun _ => 0))), ((u12 4), .inl (k 0, 40, .inl (fun _ => 0))), ((u12 5), .inl (k 0, 40, .inl (fun _ => 0))), (q14, .inr (4, [.ref (u15 0), .ref (u15 1), .ref (u15 2), .ref (u15 3), .ref (u15 4), .ref (u15 5), .int 0, .int 0, .int 0])), ((u15 0), .inl (k 0, 200, .inl (fun _ => 0))), ((u15 1), .inl (k 0, 40, .inl (fun _ => 0))), ((u15 2), .inl (k 0, 40, .inl (fun _ => 0))), ((u15 3), .inl (k 0, 40, .inl (fun _ => 0))), ((u15 4), .inl (k 0, 40, .inl (fun _ => 0))), ((u15 5), .inl (k 0, 40, .inl (fun _ => 0)))] := S
  refine r_aast C K S 1 3 52 4 rfl rfl rfl rfl (i := 2) (by unfold vp_in; decide) (f' := va_up (va_up (va_up (fun _ => none) 0 (some q8)) 1 (some q11)) 2 (some q14)) (ws' := [(h0, .inr (0, [.ref q1, .null, .null, .null, .ref q2, .ref q5, .int 0, .int (-2), .int 0])), (q1, .inl (k 3, 4, .inr (.inr (.inr (.inr (va_up (va_up (va_up (fun _ => none) 0 (some q8)) 1 (some q11)) 2 (some q14))))))), (q2, .inr (1, [.ref (u3 0), .ref (u3 1), .ref (u3 2), .ref (u3 3), .ref (u3 4), .ref (u3 5), .ref (u3 7), .ref (u3 9), .ref (u3 11), .ref (u3 13), .int 0, .int 0, .int 0, .int 0])), ((u3 0), .inl (k 4, 3731, .inr (.inr (.inr (.inr (fun _ => none)))))), ((u3 1), .inl (k 0, 40, .inl (fun _ => 0))), ((u3 2), .inl (k 0, 40, .inl (fun _ => 0))), ((u3 3), .inl (k 0, 91, .inl (fun _ => 0))), ((u3 4), .inl (k 0, 40, .inl (fun _ => 0))), ((u3 5), .inr (2, [.ref (u3 6), .int 0, .int 0])), ((u3 6), .inl (k 0, 3, .inl (fun _ => 0))), ((u3 7), .inr (2, [.ref (u3 8), .int 0, .int 0])), ((u3 8), .inl (k 0, 3, .inl (fun _ => 0))), ((u3 9), .inr (2, [.ref (u3 10), .int 0, .int 0])), ((u3 10), .inl (k 0, 3, .inl (fun _ => 0))), ((u3 11), .inr (2, [.ref (u3 12), .int 0, .int 0])), ((u3 12), .inl (k 0, 3, .inl (fun _ => 0))), ((u3 13), .inr (2, [.ref (u3 14), .int 0, .int 0])), ((u3 14), .inl (k 0, 3, .inl (fun _ => 0))), (q5, .inr (3, [.ref (u6 0), .ref (u6 1), .ref (u6 3), .ref (u6 5), .ref (u6 7), .ref (u6 9), .int 0, .int 0])), ((u6 0), .inl (k 4, 4, .inr (.inr (.inr (.inr (va_up (va_up (va_up (va_up (fun _ => none) 0 (some (u6 11))) 1 (some (u6 13))) 2 (some (u6 15))) 3 (some (u6 17)))))))), ((u6 1), .inr (2, [.ref (u6 2), .int 0, .int 0])), ((u6 2), .inl (k 0, 3, .inl (fun _ => 0))), ((u6 3), .inr (2, [.ref (u6 4), .int 0, .int 0])), ((u6 4), .inl (k 0, 3, .inl (fun _ => 0))), ((u6 5), .inr (2, [.ref (u6 6), .int 0, .int 0])), ((u6 6), .inl (k 0, 3, .inl (fun _ => 0))), ((u6 7), .inr (2, [.ref (u6 8), .int 0, .int 0])), ((u6 8), .inl (k 0, 3, .inl (fun _ => 0))), ((u6 9), .inr (2, [.ref (u6 10), .int 0, .int 0])), ((u6 10), .inl (k 0, 3, .inl (fun _ => 0))), ((u6 11), .inr (2, [.ref (u6 12), .int 0, .int 0])), ((u6 12), .inl (k 0, 3, .inl (fun _ => 0))), ((u6 13), .inr (2, [.ref (u6 14), .int 0, .int 0])), ((u6 14), .inl (k 0, 3, .inl (fun _ => 0))), ((u6 15), .inr (2, [.ref (u6 16), .int 0, .int 0])), ((u6 16), .inl (k 0, 3, .inl (fun _ => 0))), ((u6 17), .inr (2, [.ref (u6 18), .int 0, .int 0])), ((u6 18), .inl (k 0, 3, .inl (fun _ => 0))), (q8, .inr (4, [.ref (u9 0), .ref (u9 1), .ref (u9 2), .ref (u9 3), .ref (u9 4), .ref (u9 5), .int 0, .int 0, .int 0])), ((u9 0), .inl (k 0, 200, .inl (fun _ => 0))), ((u9 1), .inl (k 0, 40, .inl (fun _ => 0))), ((u9 2), .inl (k 0, 40, .inl (fun _ => 0))), ((u9 3), .inl (k 0, 40, .inl (fun _ => 0))), ((u9 4), .inl (k 0, 40, .inl (fun _ => 0))), ((u9 5), .inl (k 0, 40, .inl (fun _ => 0))), (q11, .inr (4, [.ref (u12 0), .ref (u12 1), .ref (u12 2), .ref (u12 3), .ref (u12 4), .ref (u12 5), .int 0, .int 0, .int 0])), ((u12 0), .inl (k 0, 200, .inl (fun _ => 0))), ((u12 1), .inl (k 0, 40, .inl (fun _ => 0))), ((u12 2), .inl (k 0, 40, .inl (fun _ => 0))), ((u12 3), .inl (k 0, 40, .inl (fun _ => 0))), ((u12 4), .inl (k 0, 40, .inl (fun _ => 0))), ((u12 5), .inl (k 0, 40, .inl (fun _ => 0))), (q14, .inr (4, [.ref (u15 0), .ref (u15 1), .ref (u15 2), .ref (u15 3), .ref (u15 4), .ref (u15 5), .int 0, .int 0, .int 0])), ((u15 0), .inl (k 0, 200, .inl (fun _ => 0))), ((u15 1), .inl (k 0, 40, .inl (fun _ => 0))), ((u15 2), .inl (k 0, 40, .inl (fun _ => 0))), ((u15 3), .inl (k 0, 40, .inl (fun _ => 0))), ((u15 4), .inl (k 0, 40, .inl (fun _ => 0))), ((u15 5), .inl (k 0, 40, .inl (fun _ => 0)))]) rfl rfl d_PB_init_59 (fun H locs S => ?_)
  refine lv_iinc (v := 3) (lv' := [(1, .int 3), (0, .ref h0)]) hx hb d_PB_init_60 hl (k := 0) rfl (by decide) (by decide) rfl (fun ls hl => ?_)
  refine lv_goto (tgt := 42) hx hb d_PB_init_63 (by decide) ?_
  refine lv_iload_n hx hb d_PB_init_42 rfl (lv_at hl 0 rfl) ?_
  refine lv_iconst (v := 4) hx hb d_PB_init_43 (by decide) ?_
  refine lv_icmp_ge (tgt := 66) hx hb d_PB_init_44 (by decide) (fun hq => absurd hq (by decide)) (fun _ => ?_)
  refine lv_aload_n hx hb d_PB_init_47 rfl (lv_at hl 1 rfl) ?_
  refine r_get C K S 0 rfl rfl clOk_PB 0 (by decide) wf_PB_11 (v := .ref q1) rfl d_PB_init_48 ?_
  refine lv_iload_n hx hb d_PB_init_51 rfl (lv_at hl 0 rfl) ?_
  refine r_new C K S hA 4 rfl clOk_Bo wl_PB_9 wi_Bo wz_Bo t_Bo k_Bo (fs := [.null, .null, .null, .null, .null, .null, .int 0, .int 0, .int 0]) df_Bo (Nat.le_of_ble_eq_true rfl) (Nat.le_of_ble_eq_true rfl) d_PB_init_52 (fun q17 H S => ?_)
  have S : Sw G A s.heap _ _ [(h0, .inr (0, [.ref q1, .null, .null, .null, .ref q2, .ref q5, .int 0, .int (-2), .int 0])), (q1, .inl (k 3, 4, .inr (.inr (.inr (.inr (va_up (va_up (va_up (fun _ => none) 0 (some q8)) 1 (some q11)) 2 (some q14))))))), (q2, .inr (1, [.ref (u3 0), .ref (u3 1), .ref (u3 2), .ref (u3 3), .ref (u3 4), .ref (u3 5), .ref (u3 7), .ref (u3 9), .ref (u3 11), .ref (u3 13), .int 0, .int 0, .int 0, .int 0])), ((u3 0), .inl (k 4, 3731, .inr (.inr (.inr (.inr (fun _ => none)))))), ((u3 1), .inl (k 0, 40, .inl (fun _ => 0))), ((u3 2), .inl (k 0, 40, .inl (fun _ => 0))), ((u3 3), .inl (k 0, 91, .inl (fun _ => 0))), ((u3 4), .inl (k 0, 40, .inl (fun _ => 0))), ((u3 5), .inr (2, [.ref (u3 6), .int 0, .int 0])), ((u3 6), .inl (k 0, 3, .inl (fun _ => 0))), ((u3 7), .inr (2, [.ref (u3 8), .int 0, .int 0])), ((u3 8), .inl (k 0, 3, .inl (fun _ => 0))), ((u3 9), .inr (2, [.ref (u3 10), .int 0, .int 0])), ((u3 10), .inl (k 0, 3, .inl (fun _ => 0))), ((u3 11), .inr (2, [.ref (u3 12), .int 0, .int 0])), ((u3 12), .inl (k 0, 3, .inl (fun _ => 0))), ((u3 13), .inr (2, [.ref (u3 14), .int 0, .int 0])), ((u3 14), .inl (k 0, 3, .inl (fun _ => 0))), (q5, .inr (3, [.ref (u6 0), .ref (u6 1), .ref (u6 3), .ref (u6 5), .ref (u6 7), .ref (u6 9), .int 0, .int 0])), ((u6 0), .inl (k 4, 4, .inr (.inr (.inr (.inr (va_up (va_up (va_up (va_up (fun _ => none) 0 (some (u6 11))) 1 (some (u6 13))) 2 (some (u6 15))) 3 (some (u6 17)))))))), ((u6 1), .inr (2, [.ref (u6 2), .int 0, .int 0])), ((u6 2), .inl (k 0, 3, .inl (fun _ => 0))), ((u6 3), .inr (2, [.ref (u6 4), .int 0, .int 0])), ((u6 4), .inl (k 0, 3, .inl (fun _ => 0))), ((u6 5), .inr (2, [.ref (u6 6), .int 0, .int 0])), ((u6 6), .inl (k 0, 3, .inl (fun _ => 0))), ((u6 7), .inr (2, [.ref (u6 8), .int 0, .int 0])), ((u6 8), .inl (k 0, 3, .inl (fun _ => 0))), ((u6 9), .inr (2, [.ref (u6 10), .int 0, .int 0])), ((u6 10), .inl (k 0, 3, .inl (fun _ => 0))), ((u6 11), .inr (2, [.ref (u6 12), .int 0, .int 0])), ((u6 12), .inl (k 0, 3, .inl (fun _ => 0))), ((u6 13), .inr (2, [.ref (u6 14), .int 0, .int 0])), ((u6 14), .inl (k 0, 3, .inl (fun _ => 0))), ((u6 15), .inr (2, [.ref (u6 16), .int 0, .int 0])), ((u6 16), .inl (k 0, 3, .inl (fun _ => 0))), ((u6 17), .inr (2, [.ref (u6 18), .int 0, .int 0])), ((u6 18), .inl (k 0, 3, .inl (fun _ => 0))), (q8, .inr (4, [.ref (u9 0), .ref (u9 1), .ref (u9 2), .ref (u9 3), .ref (u9 4), .ref (u9 5), .int 0, .int 0, .int 0])), ((u9 0), .inl (k 0, 200, .inl (fun _ => 0))), ((u9 1), .inl (k 0, 40, .inl (fun _ => 0))), ((u9 2), .inl (k 0, 40, .inl (fun _ => 0))), ((u9 3), .inl (k 0, 40, .inl (fun _ => 0))), ((u9 4), .inl (k 0, 40, .inl (fun _ => 0))), ((u9 5), .inl (k 0, 40, .inl (fun _ => 0))), (q11, .inr (4, [.ref (u12 0), .ref (u12 1), .ref (u12 2), .ref (u12 3), .ref (u12 4), .ref (u12 5), .int 0, .int 0, .int 0])), ((u12 0), .inl (k 0, 200, .inl (fun _ => 0))), ((u12 1), .inl (k 0, 40, .inl (fun _ => 0))), ((u12 2), .inl (k 0, 40, .inl (fun _ => 0))), ((u12 3), .inl (k 0, 40, .inl (fun _ => 0))), ((u12 4), .inl (k 0, 40, .inl (fun _ => 0))), ((u12 5), .inl (k 0, 40, .inl (fun _ => 0))), (q14, .inr (4, [.ref (u15 0), .ref (u15 1), .ref (u15 2), .ref (u15 3), .ref (u15 4), .ref (u15 5), .int 0, .int 0, .int 0])), ((u15 0), .inl (k 0, 200, .inl (fun _ => 0))), ((u15 1), .inl (k 0, 40, .inl (fun _ => 0))), ((u15 2), .inl (k 0, 40, .inl (fun _ => 0))), ((u15 3), .inl (k 0, 40, .inl (fun _ => 0))), ((u15 4), .inl (k 0, 40, .inl (fun _ => 0))), ((u15 5), .inl (k 0, 40, .inl (fun _ => 0))), (q17, .inr (4, [.null, .null, .null, .null, .null, .null, .int 0, .int 0, .int 0]))] := S
  refine lv_dup hx hb d_PB_init_55 rfl ?_
  refine r_backv (wi := [(q17, .inr (4, [.null, .null, .null, .null, .null, .null, .int 0, .int 0, .int 0]))]) (wr := [(h0, .inr (0, [.ref q1, .null, .null, .null, .ref q2, .ref q5, .int 0, .int (-2), .int 0])), (q1, .inl (k 3, 4, .inr (.inr (.inr (.inr (va_up (va_up (va_up (fun _ => none) 0 (some q8)) 1 (some q11)) 2 (some q14))))))), (q2, .inr (1, [.ref (u3 0), .ref (u3 1), .ref (u3 2), .ref (u3 3), .ref (u3 4), .ref (u3 5), .ref (u3 7), .ref (u3 9), .ref (u3 11), .ref (u3 13), .int 0, .int 0, .int 0, .int 0])), ((u3 0), .inl (k 4, 3731, .inr (.inr (.inr (.inr (fun _ => none)))))), ((u3 1), .inl (k 0, 40, .inl (fun _ => 0))), ((u3 2), .inl (k 0, 40, .inl (fun _ => 0))), ((u3 3), .inl (k 0, 91, .inl (fun _ => 0))), ((u3 4), .inl (k 0, 40, .inl (fun _ => 0))), ((u3 5), .inr (2, [.ref (u3 6), .int 0, .int 0])), ((u3 6), .inl (k 0, 3, .inl (fun _ => 0))), ((u3 7), .inr (2, [.ref (u3 8), .int 0, .int 0])), ((u3 8), .inl (k 0, 3, .inl (fun _ => 0))), ((u3 9), .inr (2, [.ref (u3 10), .int 0, .int 0])), ((u3 10), .inl (k 0, 3, .inl (fun _ => 0))), ((u3 11), .inr (2, [.ref (u3 12), .int 0, .int 0])), ((u3 12), .inl (k 0, 3, .inl (fun _ => 0))), ((u3 13), .inr (2, [.ref (u3 14), .int 0, .int 0])), ((u3 14), .inl (k 0, 3, .inl (fun _ => 0))), (q5, .inr (3, [.ref (u6 0), .ref (u6 1), .ref (u6 3), .ref (u6 5), .ref (u6 7), .ref (u6 9), .int 0, .int 0])), ((u6 0), .inl (k 4, 4, .inr (.inr (.inr (.inr (va_up (va_up (va_up (va_up (fun _ => none) 0 (some (u6 11))) 1 (some (u6 13))) 2 (some (u6 15))) 3 (some (u6 17)))))))), ((u6 1), .inr (2, [.ref (u6 2), .int 0, .int 0])), ((u6 2), .inl (k 0, 3, .inl (fun _ => 0))), ((u6 3), .inr (2, [.ref (u6 4), .int 0, .int 0])), ((u6 4), .inl (k 0, 3, .inl (fun _ => 0))), ((u6 5), .inr (2, [.ref (u6 6), .int 0, .int 0])), ((u6 6), .inl (k 0, 3, .inl (fun _ => 0))), ((u6 7), .inr (2, [.ref (u6 8), .int 0, .int 0])), ((u6 8), .inl (k 0, 3, .inl (fun _ => 0))), ((u6 9), .inr (2, [.ref (u6 10), .int 0, .int 0])), ((u6 10), .inl (k 0, 3, .inl (fun _ => 0))), ((u6 11), .inr (2, [.ref (u6 12), .int 0, .int 0])), ((u6 12), .inl (k 0, 3, .inl (fun _ => 0))), ((u6 13), .inr (2, [.ref (u6 14), .int 0, .int 0])), ((u6 14), .inl (k 0, 3, .inl (fun _ => 0))), ((u6 15), .inr (2, [.ref (u6 16), .int 0, .int 0])), ((u6 16), .inl (k 0, 3, .inl (fun _ => 0))), ((u6 17), .inr (2, [.ref (u6 18), .int 0, .int 0])), ((u6 18), .inl (k 0, 3, .inl (fun _ => 0))), (q8, .inr (4, [.ref (u9 0), .ref (u9 1), .ref (u9 2), .ref (u9 3), .ref (u9 4), .ref (u9 5), .int 0, .int 0, .int 0])), ((u9 0), .inl (k 0, 200, .inl (fun _ => 0))), ((u9 1), .inl (k 0, 40, .inl (fun _ => 0))), ((u9 2), .inl (k 0, 40, .inl (fun _ => 0))), ((u9 3), .inl (k 0, 40, .inl (fun _ => 0))), ((u9 4), .inl (k 0, 40, .inl (fun _ => 0))), ((u9 5), .inl (k 0, 40, .inl (fun _ => 0))), (q11, .inr (4, [.ref (u12 0), .ref (u12 1), .ref (u12 2), .ref (u12 3), .ref (u12 4), .ref (u12 5), .int 0, .int 0, .int 0])), ((u12 0), .inl (k 0, 200, .inl (fun _ => 0))), ((u12 1), .inl (k 0, 40, .inl (fun _ => 0))), ((u12 2), .inl (k 0, 40, .inl (fun _ => 0))), ((u12 3), .inl (k 0, 40, .inl (fun _ => 0))), ((u12 4), .inl (k 0, 40, .inl (fun _ => 0))), ((u12 5), .inl (k 0, 40, .inl (fun _ => 0))), (q14, .inr (4, [.ref (u15 0), .ref (u15 1), .ref (u15 2), .ref (u15 3), .ref (u15 4), .ref (u15 5), .int 0, .int 0, .int 0])), ((u15 0), .inl (k 0, 200, .inl (fun _ => 0))), ((u15 1), .inl (k 0, 40, .inl (fun _ => 0))), ((u15 2), .inl (k 0, 40, .inl (fun _ => 0))), ((u15 3), .inl (k 0, 40, .inl (fun _ => 0))), ((u15 4), .inl (k 0, 40, .inl (fun _ => 0))), ((u15 5), .inl (k 0, 40, .inl (fun _ => 0)))]) S hA [59] [0, 1, 2, 3, 4, 5, 6, 7, 8, 9, 10, 11, 12, 13, 14, 15, 16, 17, 18, 19, 20, 21, 22, 23, 24, 25, 26, 27, 28, 29, 30, 31, 32, 33, 34, 35, 36, 37, 38, 39, 40, 41, 42, 43, 44, 45, 46, 47, 48, 49, 50, 51, 52, 53, 54, 55, 56, 57, 58] rfl rfl (by decide) (by decide) (va_runIN (As := []) (rest := [.ref q17, .int 3, .ref q1]) ⟨hx, hb, C.2.2.1, C.2.2.2.1, C.2.2.2.2.1⟩ (k_Bo_init l G k q17 _) (k_ctorN (n := 0) C K wc_Bo_init rfl rfl wz_Bo xm_PB_33 wn_Bo_init rfl (by decide +kernel) ⟨(Nat.le_of_ble_eq_true rfl), (Nat.le_of_ble_eq_true rfl)⟩) (pr_now K S [59] (by decide) rfl) rfl rfl hl.1 rfl (lv_room (Nat.le_of_ble_eq_true rfl)) d_PB_init_56 ⟨(Nat.le_of_ble_eq_true rfl), (Nat.le_of_ble_eq_true rfl)⟩) (fun u18 H locs hw19 S => ?_)
  have S : Sw G A s.heap _ _ [(h0, .inr (0, [.ref q1, .null, .null, .null, .ref q2, .ref q5, .int 0, .int (-2), .int 0])), (q1, .inl (k 3, 4, .inr (.inr (.inr (.inr (va_up (va_up (va_up (fun _ => none) 0 (some q8)) 1 (some q11)) 2 (some q14))))))), (q2, .inr (1, [.ref (u3 0), .ref (u3 1), .ref (u3 2), .ref (u3 3), .ref (u3 4), .ref (u3 5), .ref (u3 7), .ref (u3 9), .ref (u3 11), .ref (u3 13), .int 0, .int 0, .int 0, .int 0])), ((u3 0), .inl (k 4, 3731, .inr (.inr (.inr (.inr (fun _ => none)))))), ((u3 1), .inl (k 0, 40, .inl (fun _ => 0))), ((u3 2), .inl (k 0, 40, .inl (fun _ => 0))), ((u3 3), .inl (k 0, 91, .inl (fun _ => 0))), ((u3 4), .inl (k 0, 40, .inl (fun _ => 0))), ((u3 5), .inr (2, [.ref (u3 6), .int 0, .int 0])), ((u3 6), .inl (k 0, 3, .inl (fun _ => 0))), ((u3 7), .inr (2, [.ref (u3 8), .int 0, .int 0])), ((u3 8), .inl (k 0, 3, .inl (fun _ => 0))), ((u3 9), .inr (2, [.ref (u3 10), .int 0, .int 0])), ((u3 10), .inl (k 0, 3, .inl (fun _ => 0))), ((u3 11), .inr (2, [.ref (u3 12), .int 0, .int 0])), ((u3 12), .inl (k 0, 3, .inl (fun _ => 0))), ((u3 13), .inr (2, [.ref (u3 14), .int 0, .int 0])), ((u3 14), .inl (k 0, 3, .inl (fun _ => 0))), (q5, .inr (3, [.ref (u6 0), .ref (u6 1), .ref (u6 3), .ref (u6 5), .ref (u6 7), .ref (u6 9), .int 0, .int 0])), ((u6 0), .inl (k 4, 4, .inr (.inr (.inr (.inr (va_up (va_up (va_up (va_up (fun _ => none) 0 (some (u6 11))) 1 (some (u6 13))) 2 (some (u6 15))) 3 (some (u6 17)))))))), ((u6 1), .inr (2, [.ref (u6 2), .int 0, .int 0])), ((u6 2), .inl (k 0, 3, .inl (fun _ => 0))), ((u6 3), .inr (2, [.ref (u6 4), .int 0, .int 0])), ((u6 4), .inl (k 0, 3, .inl (fun _ => 0))), ((u6 5), .inr (2, [.ref (u6 6), .int 0, .int 0])), ((u6 6), .inl (k 0, 3, .inl (fun _ => 0))), ((u6 7), .inr (2, [.ref (u6 8), .int 0, .int 0])), ((u6 8), .inl (k 0, 3, .inl (fun _ => 0))), ((u6 9), .inr (2, [.ref (u6 10), .int 0, .int 0])), ((u6 10), .inl (k 0, 3, .inl (fun _ => 0))), ((u6 11), .inr (2, [.ref (u6 12), .int 0, .int 0])), ((u6 12), .inl (k 0, 3, .inl (fun _ => 0))), ((u6 13), .inr (2, [.ref (u6 14), .int 0, .int 0])), ((u6 14), .inl (k 0, 3, .inl (fun _ => 0))), ((u6 15), .inr (2, [.ref (u6 16), .int 0, .int 0])), ((u6 16), .inl (k 0, 3, .inl (fun _ => 0))), ((u6 17), .inr (2, [.ref (u6 18), .int 0, .int 0])), ((u6 18), .inl (k 0, 3, .inl (fun _ => 0))), (q8, .inr (4, [.ref (u9 0), .ref (u9 1), .ref (u9 2), .ref (u9 3), .ref (u9 4), .ref (u9 5), .int 0, .int 0, .int 0])), ((u9 0), .inl (k 0, 200, .inl (fun _ => 0))), ((u9 1), .inl (k 0, 40, .inl (fun _ => 0))), ((u9 2), .inl (k 0, 40, .inl (fun _ => 0))), ((u9 3), .inl (k 0, 40, .inl (fun _ => 0))), ((u9 4), .inl (k 0, 40, .inl (fun _ => 0))), ((u9 5), .inl (k 0, 40, .inl (fun _ => 0))), (q11, .inr (4, [.ref (u12 0), .ref (u12 1), .ref (u12 2), .ref (u12 3), .ref (u12 4), .ref (u12 5), .int 0, .int 0, .int 0])), ((u12 0), .inl (k 0, 200, .inl (fun _ => 0))), ((u12 1), .inl (k 0, 40, .inl (fun _ => 0))), ((u12 2), .inl (k 0, 40, .inl (fun _ => 0))), ((u12 3), .inl (k 0, 40, .inl (fun _ => 0))), ((u12 4), .inl (k 0, 40, .inl (fun _ => 0))), ((u12 5), .inl (k 0, 40, .inl (fun _ => 0))), (q14, .inr (4, [.ref (u15 0), .ref (u15 1), .ref (u15 2), .ref (u15 3), .ref (u15 4), .ref (u15 5), .int 0, .int 0, .int 0])), ((u15 0), .inl (k 0, 200, .inl (fun _ => 0))), ((u15 1), .inl (k 0, 40, .inl (fun _ => 0))), ((u15 2), .inl (k 0, 40, .inl (fun _ => 0))), ((u15 3), .inl (k 0, 40, .inl (fun _ => 0))), ((u15 4), .inl (k 0, 40, .inl (fun _ => 0))), ((u15 5), .inl (k 0, 40, .inl (fun _ => 0))), (q17, .inr (4, [.ref (u18 0), .ref (u18 1), .ref (u18 2), .ref (u18 3), .ref (u18 4), .ref (u18 5), .int 0, .int 0, .int 0])), ((u18 0), .inl (k 0, 200, .inl (fun _ => 0))), ((u18 1), .inl (k 0, 40, .inl (fun _ => 0))), ((u18 2), .inl (k 0, 40, .inl (fun _ => 0))), ((u18 3), .inl (k 0, 40, .inl (fun _ => 0))), ((u18 4), .inl (k 0, 40, .inl (fun _ => 0))), ((u18 5), .inl (k 0, 40, .inl (fun _ => 0)))] := S
  refine r_aast C K S 1 3 59 4 rfl rfl rfl rfl (i := 3) (by unfold vp_in; decide) (f' := va_up (va_up (va_up (va_up (fun _ => none) 0 (some q8)) 1 (some q11)) 2 (some q14)) 3 (some q17)) (ws' := [(h0, .inr (0, [.ref q1, .null, .null, .null, .ref q2, .ref q5, .int 0, .int (-2), .int 0])), (q1, .inl (k 3, 4, .inr (.inr (.inr (.inr (va_up (va_up (va_up (va_up (fun _ => none) 0 (some q8)) 1 (some q11)) 2 (some q14)) 3 (some q17))))))), (q2, .inr (1, [.ref (u3 0), .ref (u3 1), .ref (u3 2), .ref (u3 3), .ref (u3 4), .ref (u3 5), .ref (u3 7), .ref (u3 9), .ref (u3 11), .ref (u3 13), .int 0, .int 0, .int 0, .int 0])), ((u3 0), .inl (k 4, 3731, .inr (.inr (.inr (.inr (fun _ => none)))))), ((u3 1), .inl (k 0, 40, .inl (fun _ => 0))), ((u3 2), .inl (k 0, 40, .inl (fun _ => 0))), ((u3 3), .inl (k 0, 91, .inl (fun _ => 0))), ((u3 4), .inl (k 0, 40, .inl (fun _ => 0))), ((u3 5), .inr (2, [.ref (u3 6), .int 0, .int 0])), ((u3 6), .inl (k 0, 3, .inl (fun _ => 0))), ((u3 7), .inr (2, [.ref (u3 8), .int 0, .int 0])), ((u3 8), .inl (k 0, 3, .inl (fun _ => 0))), ((u3 9), .inr (2, [.ref (u3 10), .int 0, .int 0])), ((u3 10), .inl (k 0, 3, .inl (fun _ => 0))), ((u3 11), .inr (2, [.ref (u3 12), .int 0, .int 0])), ((u3 12), .inl (k 0, 3, .inl (fun _ => 0))), ((u3 13), .inr (2, [.ref (u3 14), .int 0, .int 0])), ((u3 14), .inl (k 0, 3, .inl (fun _ => 0))), (q5, .inr (3, [.ref (u6 0), .ref (u6 1), .ref (u6 3), .ref (u6 5), .ref (u6 7), .ref (u6 9), .int 0, .int 0])), ((u6 0), .inl (k 4, 4, .inr (.inr (.inr (.inr (va_up (va_up (va_up (va_up (fun _ => none) 0 (some (u6 11))) 1 (some (u6 13))) 2 (some (u6 15))) 3 (some (u6 17)))))))), ((u6 1), .inr (2, [.ref (u6 2), .int 0, .int 0])), ((u6 2), .inl (k 0, 3, .inl (fun _ => 0))), ((u6 3), .inr (2, [.ref (u6 4), .int 0, .int 0])), ((u6 4), .inl (k 0, 3, .inl (fun _ => 0))), ((u6 5), .inr (2, [.ref (u6 6), .int 0, .int 0])), ((u6 6), .inl (k 0, 3, .inl (fun _ => 0))), ((u6 7), .inr (2, [.ref (u6 8), .int 0, .int 0])), ((u6 8), .inl (k 0, 3, .inl (fun _ => 0))), ((u6 9), .inr (2, [.ref (u6 10), .int 0, .int 0])), ((u6 10), .inl (k 0, 3, .inl (fun _ => 0))), ((u6 11), .inr (2, [.ref (u6 12), .int 0, .int 0])), ((u6 12), .inl (k 0, 3, .inl (fun _ => 0))), ((u6 13), .inr (2, [.ref (u6 14), .int 0, .int 0])), ((u6 14), .inl (k 0, 3, .inl (fun _ => 0))), ((u6 15), .inr (2, [.ref (u6 16), .int 0, .int 0])), ((u6 16), .inl (k 0, 3, .inl (fun _ => 0))), ((u6 17), .inr (2, [.ref (u6 18), .int 0, .int 0])), ((u6 18), .inl (k 0, 3, .inl (fun _ => 0))), (q8, .inr (4, [.ref (u9 0), .ref (u9 1), .ref (u9 2), .ref (u9 3), .ref (u9 4), .ref (u9 5), .int 0, .int 0, .int 0])), ((u9 0), .inl (k 0, 200, .inl (fun _ => 0))), ((u9 1), .inl (k 0, 40, .inl (fun _ => 0))), ((u9 2), .inl (k 0, 40, .inl (fun _ => 0))), ((u9 3), .inl (k 0, 40, .inl (fun _ => 0))), ((u9 4), .inl (k 0, 40, .inl (fun _ => 0))), ((u9 5), .inl (k 0, 40, .inl (fun _ => 0))), (q11, .inr (4, [.ref (u12 0), .ref (u12 1), .ref (u12 2), .ref (u12 3), .ref (u12 4), .ref (u12 5), .int 0, .int 0, .int 0])), ((u12 0), .inl (k 0, 200, .inl (fun _ => 0))), ((u12 1), .inl (k 0, 40, .inl (fun _ => 0))), ((u12 2), .inl (k 0, 40, .inl (fun _ => 0))), ((u12 3), .inl (k 0, 40, .inl (fun _ => 0))), ((u12 4), .inl (k 0, 40, .inl (fun _ => 0))), ((u12 5), .inl (k 0, 40, .inl (fun _ => 0))), (q14, .inr (4, [.ref (u15 0), .ref (u15 1), .ref (u15 2), .ref (u15 3), .ref (u15 4), .ref (u15 5), .int 0, .int 0, .int 0])), ((u15 0), .inl (k 0, 200, .inl (fun _ => 0))), ((u15 1), .inl (k 0, 40, .inl (fun _ => 0))), ((u15 2), .inl (k 0, 40, .inl (fun _ => 0))), ((u15 3), .inl (k 0, 40, .inl (fun _ => 0))), ((u15 4), .inl (k 0, 40, .inl (fun _ => 0))), ((u15 5), .inl (k 0, 40, .inl (fun _ => 0))), (q17, .inr (4, [.ref (u18 0), .ref (u18 1), .ref (u18 2), .ref (u18 3), .ref (u18 4), .ref (u18 5), .int 0, .int 0, .int 0])), ((u18 0), .inl (k 0, 200, .inl (fun _ => 0))), ((u18 1), .inl (k 0, 40, .inl (fun _ => 0))), ((u18 2), .inl (k 0, 40, .inl (fun _ => 0))), ((u18 3), .inl (k 0, 40, .inl (fun _ => 0))), ((u18 4), .inl (k 0, 40, .inl (fun _ => 0))), ((u18 5), .inl (k 0, 40, .inl (fun _ => 0)))]) rfl rfl d_PB_init_59 (fun H locs S => ?_)
  refine lv_iinc (v := 4) (lv' := [(1, .int 4), (0, .ref h0)]) hx hb d_PB_init_60 hl (k := 0) rfl (by decide) (by decide) rfl (fun ls hl => ?_)
  refine lv_goto (tgt := 42) hx hb d_PB_init_63 (by decide) ?_
  refine lv_iload_n hx hb d_PB_init_42 rfl (lv_at hl 0 rfl) ?_
  refine lv_iconst (v := 4) hx hb d_PB_init_43 (by decide) ?_
  refine lv_icmp_ge (tgt := 66) hx hb d_PB_init_44 (by decide) (fun _ => ?_) (fun hq => absurd (by decide) hq)
  refine lv_aload_n hx hb d_PB_init_66 rfl (lv_at hl 1 rfl) ?_
  refine r_new C K S hA 5 rfl clOk_Re wl_PB_34 wi_Re wz_Re t_Re k_Re (fs := [.null, .null, .int 0, .int 0, .int 0]) df_Re (Nat.le_of_ble_eq_true rfl) (Nat.le_of_ble_eq_true rfl) d_PB_init_67 (fun q20 H S => ?_)
  have S : Sw G A s.heap _ _ [(h0, .inr (0, [.ref q1, .null, .null, .null, .ref q2, .ref q5, .int 0, .int (-2), .int 0])), (q1, .inl (k 3, 4, .inr (.inr (.inr (.inr (va_up (va_up (va_up (va_up (fun _ => none) 0 (some q8)) 1 (some q11)) 2 (some q14)) 3 (some q17))))))), (q2, .inr (1, [.ref (u3 0), .ref (u3 1), .ref (u3 2), .ref (u3 3), .ref (u3 4), .ref (u3 5), .ref (u3 7), .ref (u3 9), .ref (u3 11), .ref (u3 13), .int 0, .int 0, .int 0, .int 0])), ((u3 0), .inl (k 4, 3731, .inr (.inr (.inr (.inr (fun _ => none)))))), ((u3 1), .inl (k 0, 40, .inl (fun _ => 0))), ((u3 2), .inl (k 0, 40, .inl (fun _ => 0))), ((u3 3), .inl (k 0, 91, .inl (fun _ => 0))), ((u3 4), .inl (k 0, 40, .inl (fun _ => 0))), ((u3 5), .inr (2, [.ref (u3 6), .int 0, .int 0])), ((u3 6), .inl (k 0, 3, .inl (fun _ => 0))), ((u3 7), .inr (2, [.ref (u3 8), .int 0, .int 0])), ((u3 8), .inl (k 0, 3, .inl (fun _ => 0))), ((u3 9), .inr (2, [.ref (u3 10), .int 0, .int 0])), ((u3 10), .inl (k 0, 3, .inl (fun _ => 0))), ((u3 11), .inr (2, [.ref (u3 12), .int 0, .int 0])), ((u3 12), .inl (k 0, 3, .inl (fun _ => 0))), ((u3 13), .inr (2, [.ref (u3 14), .int 0, .int 0])), ((u3 14), .inl (k 0, 3, .inl (fun _ => 0))), (q5, .inr (3, [.ref (u6 0), .ref (u6 1), .ref (u6 3), .ref (u6 5), .ref (u6 7), .ref (u6 9), .int 0, .int 0])), ((u6 0), .inl (k 4, 4, .inr (.inr (.inr (.inr (va_up (va_up (va_up (va_up (fun _ => none) 0 (some (u6 11))) 1 (some (u6 13))) 2 (some (u6 15))) 3 (some (u6 17)))))))), ((u6 1), .inr (2, [.ref (u6 2), .int 0, .int 0])), ((u6 2), .inl (k 0, 3, .inl (fun _ => 0))), ((u6 3), .inr (2, [.ref (u6 4), .int 0, .int 0])), ((u6 4), .inl (k 0, 3, .inl (fun _ => 0))), ((u6 5), .inr (2, [.ref (u6 6), .int 0, .int 0])), ((u6 6), .inl (k 0, 3, .inl (fun _ => 0))), ((u6 7), .inr (2, [.ref (u6 8), .int 0, .int 0])), ((u6 8), .inl (k 0, 3, .inl (fun _ => 0))), ((u6 9), .inr (2, [.ref (u6 10), .int 0, .int 0])), ((u6 10), .inl (k 0, 3, .inl (fun _ => 0))), ((u6 11), .inr (2, [.ref (u6 12), .int 0, .int 0])), ((u6 12), .inl (k 0, 3, .inl (fun _ => 0))), ((u6 13), .inr (2, [.ref (u6 14), .int 0, .int 0])), ((u6 14), .inl (k 0, 3, .inl (fun _ => 0))), ((u6 15), .inr (2, [.ref (u6 16), .int 0, .int 0])), ((u6 16), .inl (k 0, 3, .inl (fun _ => 0))), ((u6 17), .inr (2, [.ref (u6 18), .int 0, .int 0])), ((u6 18), .inl (k 0, 3, .inl (fun _ => 0))), (q8, .inr (4, [.ref (u9 0), .ref (u9 1), .ref (u9 2), .ref (u9 3), .ref (u9 4), .ref (u9 5), .int 0, .int 0, .int 0])), ((u9 0), .inl (k 0, 200, .inl (fun _ => 0))), ((u9 1), .inl (k 0, 40, .inl (fun _ => 0))), ((u9 2), .inl (k 0, 40, .inl (fun _ => 0))), ((u9 3), .inl (k 0, 40, .inl (fun _ => 0))), ((u9 4), .inl (k 0, 40, .inl (fun _ => 0))), ((u9 5), .inl (k 0, 40, .inl (fun _ => 0))), (q11, .inr (4, [.ref (u12 0), .ref (u12 1), .ref (u12 2), .ref (u12 3), .ref (u12 4), .ref (u12 5), .int 0, .int 0, .int 0])), ((u12 0), .inl (k 0, 200, .inl (fun _ => 0))), ((u12 1), .inl (k 0, 40, .inl (fun _ => 0))), ((u12 2), .inl (k 0, 40, .inl (fun _ => 0))), ((u12 3), .inl (k 0, 40, .inl (fun _ => 0))), ((u12 4), .inl (k 0, 40, .inl (fun _ => 0))), ((u12 5), .inl (k 0, 40, .inl (fun _ => 0))), (q14, .inr (4, [.ref (u15 0), .ref (u15 1), .ref (u15 2), .ref (u15 3), .ref (u15 4), .ref (u15 5), .int 0, .int 0, .int 0])), ((u15 0), .inl (k 0, 200, .inl (fun _ => 0))), ((u15 1), .inl (k 0, 40, .inl (fun _ => 0))), ((u15 2), .inl (k 0, 40, .inl (fun _ => 0))), ((u15 3), .inl (k 0, 40, .inl (fun _ => 0))), ((u15 4), .inl (k 0, 40, .inl (fun _ => 0))), ((u15 5), .inl (k 0, 40, .inl (fun _ => 0))), (q17, .inr (4, [.ref (u18 0), .ref (u18 1), .ref (u18 2), .ref (u18 3), .ref (u18 4), .ref (u18 5), .int 0, .int 0, .int 0])), ((u18 0), .inl (k 0, 200, .inl (fun _ => 0))), ((u18 1), .inl (k 0, 40, .inl (fun _ => 0))), ((u18 2), .inl (k 0, 40, .inl (fun _ => 0))), ((u18 3), .inl (k 0, 40, .inl (fun _ => 0))), ((u18 4), .inl (k 0, 40, .inl (fun _ => 0))), ((u18 5), .inl (k 0, 40, .inl (fun _ => 0))), (q20, .inr (5, [.null, .null, .int 0, .int 0, .int 0]))] := S
  refine lv_dup hx hb d_PB_init_70 rfl ?_
  refine lv_aload_n hx hb d_PB_init_71 rfl (lv_at hl 1 rfl) ?_
  refine r_get C K S 0 rfl rfl clOk_PB 0 (by decide) wf_PB_11 (v := .ref q1) rfl d_PB_init_72 ?_
  refine r_backv (wi := [(q20, .inr (5, [.null, .null, .int 0, .int 0, .int 0])), (q1, .inl (k 3, 4, .inr (.inr (.inr (.inr (va_up (va_up (va_up (va_up (fun _ => none) 0 (some q8)) 1 (some q11)) 2 (some q14)) 3 (some q17)))))))]) (wr := [(h0, .inr (0, [.ref q1, .null, .null, .null, .ref q2, .ref q5, .int 0, .int (-2), .int 0])), (q2, .inr (1, [.ref (u3 0), .ref (u3 1), .ref (u3 2), .ref (u3 3), .ref (u3 4), .ref (u3 5), .ref (u3 7), .ref (u3 9), .ref (u3 11), .ref (u3 13), .int 0, .int 0, .int 0, .int 0])), ((u3 0), .inl (k 4, 3731, .inr (.inr (.inr (.inr (fun _ => none)))))), ((u3 1), .inl (k 0, 40, .inl (fun _ => 0))), ((u3 2), .inl (k 0, 40, .inl (fun _ => 0))), ((u3 3), .inl (k 0, 91, .inl (fun _ => 0))), ((u3 4), .inl (k 0, 40, .inl (fun _ => 0))), ((u3 5), .inr (2, [.ref (u3 6), .int 0, .int 0])), ((u3 6), .inl (k 0, 3, .inl (fun _ => 0))), ((u3 7), .inr (2, [.ref (u3 8), .int 0, .int 0])), ((u3 8), .inl (k 0, 3, .inl (fun _ => 0))), ((u3 9), .inr (2, [.ref (u3 10), .int 0, .int 0])), ((u3 10), .inl (k 0, 3, .inl (fun _ => 0))), ((u3 11), .inr (2, [.ref (u3 12), .int 0, .int 0])), ((u3 12), .inl (k 0, 3, .inl (fun _ => 0))), ((u3 13), .inr (2, [.ref (u3 14), .int 0, .int 0])), ((u3 14), .inl (k 0, 3, .inl (fun _ => 0))), (q5, .inr (3, [.ref (u6 0), .ref (u6 1), .ref (u6 3), .ref (u6 5), .ref (u6 7), .ref (u6 9), .int 0, .int 0])), ((u6 0), .inl (k 4, 4, .inr (.inr (.inr (.inr (va_up (va_up (va_up (va_up (fun _ => none) 0 (some (u6 11))) 1 (some (u6 13))) 2 (some (u6 15))) 3 (some (u6 17)))))))), ((u6 1), .inr (2, [.ref (u6 2), .int 0, .int 0])), ((u6 2), .inl (k 0, 3, .inl (fun _ => 0))), ((u6 3), .inr (2, [.ref (u6 4), .int 0, .int 0])), ((u6 4), .inl (k 0, 3, .inl (fun _ => 0))), ((u6 5), .inr (2, [.ref (u6 6), .int 0, .int 0])), ((u6 6), .inl (k 0, 3, .inl (fun _ => 0))), ((u6 7), .inr (2, [.ref (u6 8), .int 0, .int 0])), ((u6 8), .inl (k 0, 3, .inl (fun _ => 0))), ((u6 9), .inr (2, [.ref (u6 10), .int 0, .int 0])), ((u6 10), .inl (k 0, 3, .inl (fun _ => 0))), ((u6 11), .inr (2, [.ref (u6 12), .int 0, .int 0])), ((u6 12), .inl (k 0, 3, .inl (fun _ => 0))), ((u6 13), .inr (2, [.ref (u6 14), .int 0, .int 0])), ((u6 14), .inl (k 0, 3, .inl (fun _ => 0))), ((u6 15), .inr (2, [.ref (u6 16), .int 0, .int 0])), ((u6 16), .inl (k 0, 3, .inl (fun _ => 0))), ((u6 17), .inr (2, [.ref (u6 18), .int 0, .int 0])), ((u6 18), .inl (k 0, 3, .inl (fun _ => 0))), (q8, .inr (4, [.ref (u9 0), .ref (u9 1), .ref (u9 2), .ref (u9 3), .ref (u9 4), .ref (u9 5), .int 0, .int 0, .int 0])), ((u9 0), .inl (k 0, 200, .inl (fun _ => 0))), ((u9 1), .inl (k 0, 40, .inl (fun _ => 0))), ((u9 2), .inl (k 0, 40, .inl (fun _ => 0))), ((u9 3), .inl (k 0, 40, .inl (fun _ => 0))), ((u9 4), .inl (k 0, 40, .inl (fun _ => 0))), ((u9 5), .inl (k 0, 40, .inl (fun _ => 0))), (q11, .inr (4, [.ref (u12 0), .ref (u12 1), .ref (u12 2), .ref (u12 3), .ref (u12 4), .ref (u12 5), .int 0, .int 0, .int 0])), ((u12 0), .inl (k 0, 200, .inl (fun _ => 0))), ((u12 1), .inl (k 0, 40, .inl (fun _ => 0))), ((u12 2), .inl (k 0, 40, .inl (fun _ => 0))), ((u12 3), .inl (k 0, 40, .inl (fun _ => 0))), ((u12 4), .inl (k 0, 40, .inl (fun _ => 0))), ((u12 5), .inl (k 0, 40, .inl (fun _ => 0))), (q14, .inr (4, [.ref (u15 0), .ref (u15 1), .ref (u15 2), .ref (u15 3), .ref (u15 4), .ref (u15 5), .int 0, .int 0, .int 0])), ((u15 0), .inl (k 0, 200, .inl (fun _ => 0))), ((u15 1), .inl (k 0, 40, .inl (fun _ => 0))), ((u15 2), .inl (k 0, 40, .inl (fun _ => 0))), ((u15 3), .inl (k 0, 40, .inl (fun _ => 0))), ((u15 4), .inl (k 0, 40, .inl (fun _ => 0))), ((u15 5), .inl (k 0, 40, .inl (fun _ => 0))), (q17, .inr (4, [.ref (u18 0), .ref (u18 1), .ref (u18 2), .ref (u18 3), .ref (u18 4), .ref (u18 5), .int 0, .int 0, .int 0])), ((u18 0), .inl (k 0, 200, .inl (fun _ => 0))), ((u18 1), .inl (k 0, 40, .inl (fun _ => 0))), ((u18 2), .inl (k 0, 40, .inl (fun _ => 0))), ((u18 3), .inl (k 0, 40, .inl (fun _ => 0))), ((u18 4), .inl (k 0, 40, .inl (fun _ => 0))), ((u18 5), .inl (k 0, 40, .inl (fun _ => 0)))]) S hA [66, 1] [0, 2, 3, 4, 5, 6, 7, 8, 9, 10, 11, 12, 13, 14, 15, 16, 17, 18, 19, 20, 21, 22, 23, 24, 25, 26, 27, 28, 29, 30, 31, 32, 33, 34, 35, 36, 37, 38, 39, 40, 41, 42, 43, 44, 45, 46, 47, 48, 49, 50, 51, 52, 53, 54, 55, 56, 57, 58, 59, 60, 61, 62, 63, 64, 65] rfl rfl (by decide) (by decide) (va_runIN (As := [.ref q1]) (rest := [.ref q20, .ref h0]) ⟨hx, hb, C.2.2.1, C.2.2.2.1, C.2.2.2.2.1⟩ (k_Re_init l G k q20 _ q1 q8 (va_up (va_up (va_up (va_up (fun _ => none) 0 (some q8)) 1 (some q11)) 2 (some q14)) 3 (some q17)) rfl) (k_ctorN (n := 1) C K wc_Re_init rfl rfl wz_Re xm_PB_36 wn_Re_init rfl (by decide +kernel) ⟨(Nat.le_of_ble_eq_true rfl), (Nat.le_of_ble_eq_true rfl)⟩) (pr_now K S [66, 1] (by decide) rfl) rfl rfl hl.1 rfl (lv_room (Nat.le_of_ble_eq_true rfl)) d_PB_init_75 ⟨(Nat.le_of_ble_eq_true rfl), (Nat.le_of_ble_eq_true rfl)⟩) (fun u21 H locs hw22 S => ?_)
  have S : Sw G A s.heap _ _ [(h0, .inr (0, [.ref q1, .null, .null, .null, .ref q2, .ref q5, .int 0, .int (-2), .int 0])), (q2, .inr (1, [.ref (u3 0), .ref (u3 1), .ref (u3 2), .ref (u3 3), .ref (u3 4), .ref (u3 5), .ref (u3 7), .ref (u3 9), .ref (u3 11), .ref (u3 13), .int 0, .int 0, .int 0, .int 0])), ((u3 0), .inl (k 4, 3731, .inr (.inr (.inr (.inr (fun _ => none)))))), ((u3 1), .inl (k 0, 40, .inl (fun _ => 0))), ((u3 2), .inl (k 0, 40, .inl (fun _ => 0))), ((u3 3), .inl (k 0, 91, .inl (fun _ => 0))), ((u3 4), .inl (k 0, 40, .inl (fun _ => 0))), ((u3 5), .inr (2, [.ref (u3 6), .int 0, .int 0])), ((u3 6), .inl (k 0, 3, .inl (fun _ => 0))), ((u3 7), .inr (2, [.ref (u3 8), .int 0, .int 0])), ((u3 8), .inl (k 0, 3, .inl (fun _ => 0))), ((u3 9), .inr (2, [.ref (u3 10), .int 0, .int 0])), ((u3 10), .inl (k 0, 3, .inl (fun _ => 0))), ((u3 11), .inr (2, [.ref (u3 12), .int 0, .int 0])), ((u3 12), .inl (k 0, 3, .inl (fun _ => 0))), ((u3 13), .inr (2, [.ref (u3 14), .int 0, .int 0])), ((u3 14), .inl (k 0, 3, .inl (fun _ => 0))), (q5, .inr (3, [.ref (u6 0), .ref (u6 1), .ref (u6 3), .ref (u6 5), .ref (u6 7), .ref (u6 9), .int 0, .int 0])), ((u6 0), .inl (k 4, 4, .inr (.inr (.inr (.inr (va_up (va_up (va_up (va_up (fun _ => none) 0 (some (u6 11))) 1 (some (u6 13))) 2 (some (u6 15))) 3 (some (u6 17)))))))), ((u6 1), .inr (2, [.ref (u6 2), .int 0, .int 0])), ((u6 2), .inl (k 0, 3, .inl (fun _ => 0))), ((u6 3), .inr (2, [.ref (u6 4), .int 0, .int 0])), ((u6 4), .inl (k 0, 3, .inl (fun _ => 0))), ((u6 5), .inr (2, [.ref (u6 6), .int 0, .int 0])), ((u6 6), .inl (k 0, 3, .inl (fun _ => 0))), ((u6 7), .inr (2, [.ref (u6 8), .int 0, .int 0])), ((u6 8), .inl (k 0, 3, .inl (fun _ => 0))), ((u6 9), .inr (2, [.ref (u6 10), .int 0, .int 0])), ((u6 10), .inl (k 0, 3, .inl (fun _ => 0))), ((u6 11), .inr (2, [.ref (u6 12), .int 0, .int 0])), ((u6 12), .inl (k 0, 3, .inl (fun _ => 0))), ((u6 13), .inr (2, [.ref (u6 14), .int 0, .int 0])), ((u6 14), .inl (k 0, 3, .inl (fun _ => 0))), ((u6 15), .inr (2, [.ref (u6 16), .int 0, .int 0])), ((u6 16), .inl (k 0, 3, .inl (fun _ => 0))), ((u6 17), .inr (2, [.ref (u6 18), .int 0, .int 0])), ((u6 18), .inl (k 0, 3, .inl (fun _ => 0))), (q8, .inr (4, [.ref (u9 0), .ref (u9 1), .ref (u9 2), .ref (u9 3), .ref (u9 4), .ref (u9 5), .int 0, .int 0, .int 0])), ((u9 0), .inl (k 0, 200, .inl (fun _ => 0))), ((u9 1), .inl (k 0, 40, .inl (fun _ => 0))), ((u9 2), .inl (k 0, 40, .inl (fun _ => 0))), ((u9 3), .inl (k 0, 40, .inl (fun _ => 0))), ((u9 4), .inl (k 0, 40, .inl (fun _ => 0))), ((u9 5), .inl (k 0, 40, .inl (fun _ => 0))), (q11, .inr (4, [.ref (u12 0), .ref (u12 1), .ref (u12 2), .ref (u12 3), .ref (u12 4), .ref (u12 5), .int 0, .int 0, .int 0])), ((u12 0), .inl (k 0, 200, .inl (fun _ => 0))), ((u12 1), .inl (k 0, 40, .inl (fun _ => 0))), ((u12 2), .inl (k 0, 40, .inl (fun _ => 0))), ((u12 3), .inl (k 0, 40, .inl (fun _ => 0))), ((u12 4), .inl (k 0, 40, .inl (fun _ => 0))), ((u12 5), .inl (k 0, 40, .inl (fun _ => 0))), (q14, .inr (4, [.ref (u15 0), .ref (u15 1), .ref (u15 2), .ref (u15 3), .ref (u15 4), .ref (u15 5), .int 0, .int 0, .int 0])), ((u15 0), .inl (k 0, 200, .inl (fun _ => 0))), ((u15 1), .inl (k 0, 40, .inl (fun _ => 0))), ((u15 2), .inl (k 0, 40, .inl (fun _ => 0))), ((u15 3), .inl (k 0, 40, .inl (fun _ => 0))), ((u15 4), .inl (k 0, 40, .inl (fun _ => 0))), ((u15 5), .inl (k 0, 40, .inl (fun _ => 0))), (q17, .inr (4, [.ref (u18 0), .ref (u18 1), .ref (u18 2), .ref (u18 3), .ref (u18 4), .ref (u18 5), .int 0, .int 0, .int 0])), ((u18 0), .inl (k 0, 200, .inl (fun _ => 0))), ((u18 1), .inl (k 0, 40, .inl (fun _ => 0))), ((u18 2), .inl (k 0, 40, .inl (fun _ => 0))), ((u18 3), .inl (k 0, 40, .inl (fun _ => 0))), ((u18 4), .inl (k 0, 40, .inl (fun _ => 0))), ((u18 5), .inl (k 0, 40, .inl (fun _ => 0))), (q20, .inr (5, [.ref q1, .ref q8, .int 0, .int 0, .int (-2)])), (q1, .inl (k 3, 4, .inr (.inr (.inr (.inr (va_up (va_up (va_up (va_up (fun _ => none) 0 (some q8)) 1 (some q11)) 2 (some q14)) 3 (some q17)))))))] := S
  refine r_putF C K S 0 rfl rfl clOk_PB 1 (by decide) wf_PB_39 rfl rfl (ty := .object "PotentialBench$Reader") (v := .ref q20) (by decide +kernel) rfl rfl (Nat.le_of_ble_eq_true rfl) (fs' := [.ref q1, .ref q20, .null, .null, .ref q2, .ref q5, .int 0, .int (-2), .int 0]) (ws' := [(h0, .inr (0, [.ref q1, .ref q20, .null, .null, .ref q2, .ref q5, .int 0, .int (-2), .int 0])), (q2, .inr (1, [.ref (u3 0), .ref (u3 1), .ref (u3 2), .ref (u3 3), .ref (u3 4), .ref (u3 5), .ref (u3 7), .ref (u3 9), .ref (u3 11), .ref (u3 13), .int 0, .int 0, .int 0, .int 0])), ((u3 0), .inl (k 4, 3731, .inr (.inr (.inr (.inr (fun _ => none)))))), ((u3 1), .inl (k 0, 40, .inl (fun _ => 0))), ((u3 2), .inl (k 0, 40, .inl (fun _ => 0))), ((u3 3), .inl (k 0, 91, .inl (fun _ => 0))), ((u3 4), .inl (k 0, 40, .inl (fun _ => 0))), ((u3 5), .inr (2, [.ref (u3 6), .int 0, .int 0])), ((u3 6), .inl (k 0, 3, .inl (fun _ => 0))), ((u3 7), .inr (2, [.ref (u3 8), .int 0, .int 0])), ((u3 8), .inl (k 0, 3, .inl (fun _ => 0))), ((u3 9), .inr (2, [.ref (u3 10), .int 0, .int 0])), ((u3 10), .inl (k 0, 3, .inl (fun _ => 0))), ((u3 11), .inr (2, [.ref (u3 12), .int 0, .int 0])), ((u3 12), .inl (k 0, 3, .inl (fun _ => 0))), ((u3 13), .inr (2, [.ref (u3 14), .int 0, .int 0])), ((u3 14), .inl (k 0, 3, .inl (fun _ => 0))), (q5, .inr (3, [.ref (u6 0), .ref (u6 1), .ref (u6 3), .ref (u6 5), .ref (u6 7), .ref (u6 9), .int 0, .int 0])), ((u6 0), .inl (k 4, 4, .inr (.inr (.inr (.inr (va_up (va_up (va_up (va_up (fun _ => none) 0 (some (u6 11))) 1 (some (u6 13))) 2 (some (u6 15))) 3 (some (u6 17)))))))), ((u6 1), .inr (2, [.ref (u6 2), .int 0, .int 0])), ((u6 2), .inl (k 0, 3, .inl (fun _ => 0))), ((u6 3), .inr (2, [.ref (u6 4), .int 0, .int 0])), ((u6 4), .inl (k 0, 3, .inl (fun _ => 0))), ((u6 5), .inr (2, [.ref (u6 6), .int 0, .int 0])), ((u6 6), .inl (k 0, 3, .inl (fun _ => 0))), ((u6 7), .inr (2, [.ref (u6 8), .int 0, .int 0])), ((u6 8), .inl (k 0, 3, .inl (fun _ => 0))), ((u6 9), .inr (2, [.ref (u6 10), .int 0, .int 0])), ((u6 10), .inl (k 0, 3, .inl (fun _ => 0))), ((u6 11), .inr (2, [.ref (u6 12), .int 0, .int 0])), ((u6 12), .inl (k 0, 3, .inl (fun _ => 0))), ((u6 13), .inr (2, [.ref (u6 14), .int 0, .int 0])), ((u6 14), .inl (k 0, 3, .inl (fun _ => 0))), ((u6 15), .inr (2, [.ref (u6 16), .int 0, .int 0])), ((u6 16), .inl (k 0, 3, .inl (fun _ => 0))), ((u6 17), .inr (2, [.ref (u6 18), .int 0, .int 0])), ((u6 18), .inl (k 0, 3, .inl (fun _ => 0))), (q8, .inr (4, [.ref (u9 0), .ref (u9 1), .ref (u9 2), .ref (u9 3), .ref (u9 4), .ref (u9 5), .int 0, .int 0, .int 0])), ((u9 0), .inl (k 0, 200, .inl (fun _ => 0))), ((u9 1), .inl (k 0, 40, .inl (fun _ => 0))), ((u9 2), .inl (k 0, 40, .inl (fun _ => 0))), ((u9 3), .inl (k 0, 40, .inl (fun _ => 0))), ((u9 4), .inl (k 0, 40, .inl (fun _ => 0))), ((u9 5), .inl (k 0, 40, .inl (fun _ => 0))), (q11, .inr (4, [.ref (u12 0), .ref (u12 1), .ref (u12 2), .ref (u12 3), .ref (u12 4), .ref (u12 5), .int 0, .int 0, .int 0])), ((u12 0), .inl (k 0, 200, .inl (fun _ => 0))), ((u12 1), .inl (k 0, 40, .inl (fun _ => 0))), ((u12 2), .inl (k 0, 40, .inl (fun _ => 0))), ((u12 3), .inl (k 0, 40, .inl (fun _ => 0))), ((u12 4), .inl (k 0, 40, .inl (fun _ => 0))), ((u12 5), .inl (k 0, 40, .inl (fun _ => 0))), (q14, .inr (4, [.ref (u15 0), .ref (u15 1), .ref (u15 2), .ref (u15 3), .ref (u15 4), .ref (u15 5), .int 0, .int 0, .int 0])), ((u15 0), .inl (k 0, 200, .inl (fun _ => 0))), ((u15 1), .inl (k 0, 40, .inl (fun _ => 0))), ((u15 2), .inl (k 0, 40, .inl (fun _ => 0))), ((u15 3), .inl (k 0, 40, .inl (fun _ => 0))), ((u15 4), .inl (k 0, 40, .inl (fun _ => 0))), ((u15 5), .inl (k 0, 40, .inl (fun _ => 0))), (q17, .inr (4, [.ref (u18 0), .ref (u18 1), .ref (u18 2), .ref (u18 3), .ref (u18 4), .ref (u18 5), .int 0, .int 0, .int 0])), ((u18 0), .inl (k 0, 200, .inl (fun _ => 0))), ((u18 1), .inl (k 0, 40, .inl (fun _ => 0))), ((u18 2), .inl (k 0, 40, .inl (fun _ => 0))), ((u18 3), .inl (k 0, 40, .inl (fun _ => 0))), ((u18 4), .inl (k 0, 40, .inl (fun _ => 0))), ((u18 5), .inl (k 0, 40, .inl (fun _ => 0))), (q20, .inr (5, [.ref q1, .ref q8, .int 0, .int 0, .int (-2)])), (q1, .inl (k 3, 4, .inr (.inr (.inr (.inr (va_up (va_up (va_up (va_up (fun _ => none) 0 (some q8)) 1 (some q11)) 2 (some q14)) 3 (some q17)))))))]) rfl rfl d_PB_init_78 (fun H locs S => ?_)
  refine lv_aload_n hx hb d_PB_init_81 rfl (lv_at hl 1 rfl) ?_
  refine r_new C K S hA 6 rfl clOk_Ru wl_PB_43 wi_Ru wz_Ru t_Ru k_Ru (fs := [.null, .null, .null, .null, .null, .int 0, .int 0, .int 0, .int 0, .int 0, .long 0, .int 0]) df_Ru (Nat.le_of_ble_eq_true rfl) (Nat.le_of_ble_eq_true rfl) d_PB_init_82 (fun q23 H S => ?_)
  have S : Sw G A s.heap _ _ [(h0, .inr (0, [.ref q1, .ref q20, .null, .null, .ref q2, .ref q5, .int 0, .int (-2), .int 0])), (q2, .inr (1, [.ref (u3 0), .ref (u3 1), .ref (u3 2), .ref (u3 3), .ref (u3 4), .ref (u3 5), .ref (u3 7), .ref (u3 9), .ref (u3 11), .ref (u3 13), .int 0, .int 0, .int 0, .int 0])), ((u3 0), .inl (k 4, 3731, .inr (.inr (.inr (.inr (fun _ => none)))))), ((u3 1), .inl (k 0, 40, .inl (fun _ => 0))), ((u3 2), .inl (k 0, 40, .inl (fun _ => 0))), ((u3 3), .inl (k 0, 91, .inl (fun _ => 0))), ((u3 4), .inl (k 0, 40, .inl (fun _ => 0))), ((u3 5), .inr (2, [.ref (u3 6), .int 0, .int 0])), ((u3 6), .inl (k 0, 3, .inl (fun _ => 0))), ((u3 7), .inr (2, [.ref (u3 8), .int 0, .int 0])), ((u3 8), .inl (k 0, 3, .inl (fun _ => 0))), ((u3 9), .inr (2, [.ref (u3 10), .int 0, .int 0])), ((u3 10), .inl (k 0, 3, .inl (fun _ => 0))), ((u3 11), .inr (2, [.ref (u3 12), .int 0, .int 0])), ((u3 12), .inl (k 0, 3, .inl (fun _ => 0))), ((u3 13), .inr (2, [.ref (u3 14), .int 0, .int 0])), ((u3 14), .inl (k 0, 3, .inl (fun _ => 0))), (q5, .inr (3, [.ref (u6 0), .ref (u6 1), .ref (u6 3), .ref (u6 5), .ref (u6 7), .ref (u6 9), .int 0, .int 0])), ((u6 0), .inl (k 4, 4, .inr (.inr (.inr (.inr (va_up (va_up (va_up (va_up (fun _ => none) 0 (some (u6 11))) 1 (some (u6 13))) 2 (some (u6 15))) 3 (some (u6 17)))))))), ((u6 1), .inr (2, [.ref (u6 2), .int 0, .int 0])), ((u6 2), .inl (k 0, 3, .inl (fun _ => 0))), ((u6 3), .inr (2, [.ref (u6 4), .int 0, .int 0])), ((u6 4), .inl (k 0, 3, .inl (fun _ => 0))), ((u6 5), .inr (2, [.ref (u6 6), .int 0, .int 0])), ((u6 6), .inl (k 0, 3, .inl (fun _ => 0))), ((u6 7), .inr (2, [.ref (u6 8), .int 0, .int 0])), ((u6 8), .inl (k 0, 3, .inl (fun _ => 0))), ((u6 9), .inr (2, [.ref (u6 10), .int 0, .int 0])), ((u6 10), .inl (k 0, 3, .inl (fun _ => 0))), ((u6 11), .inr (2, [.ref (u6 12), .int 0, .int 0])), ((u6 12), .inl (k 0, 3, .inl (fun _ => 0))), ((u6 13), .inr (2, [.ref (u6 14), .int 0, .int 0])), ((u6 14), .inl (k 0, 3, .inl (fun _ => 0))), ((u6 15), .inr (2, [.ref (u6 16), .int 0, .int 0])), ((u6 16), .inl (k 0, 3, .inl (fun _ => 0))), ((u6 17), .inr (2, [.ref (u6 18), .int 0, .int 0])), ((u6 18), .inl (k 0, 3, .inl (fun _ => 0))), (q8, .inr (4, [.ref (u9 0), .ref (u9 1), .ref (u9 2), .ref (u9 3), .ref (u9 4), .ref (u9 5), .int 0, .int 0, .int 0])), ((u9 0), .inl (k 0, 200, .inl (fun _ => 0))), ((u9 1), .inl (k 0, 40, .inl (fun _ => 0))), ((u9 2), .inl (k 0, 40, .inl (fun _ => 0))), ((u9 3), .inl (k 0, 40, .inl (fun _ => 0))), ((u9 4), .inl (k 0, 40, .inl (fun _ => 0))), ((u9 5), .inl (k 0, 40, .inl (fun _ => 0))), (q11, .inr (4, [.ref (u12 0), .ref (u12 1), .ref (u12 2), .ref (u12 3), .ref (u12 4), .ref (u12 5), .int 0, .int 0, .int 0])), ((u12 0), .inl (k 0, 200, .inl (fun _ => 0))), ((u12 1), .inl (k 0, 40, .inl (fun _ => 0))), ((u12 2), .inl (k 0, 40, .inl (fun _ => 0))), ((u12 3), .inl (k 0, 40, .inl (fun _ => 0))), ((u12 4), .inl (k 0, 40, .inl (fun _ => 0))), ((u12 5), .inl (k 0, 40, .inl (fun _ => 0))), (q14, .inr (4, [.ref (u15 0), .ref (u15 1), .ref (u15 2), .ref (u15 3), .ref (u15 4), .ref (u15 5), .int 0, .int 0, .int 0])), ((u15 0), .inl (k 0, 200, .inl (fun _ => 0))), ((u15 1), .inl (k 0, 40, .inl (fun _ => 0))), ((u15 2), .inl (k 0, 40, .inl (fun _ => 0))), ((u15 3), .inl (k 0, 40, .inl (fun _ => 0))), ((u15 4), .inl (k 0, 40, .inl (fun _ => 0))), ((u15 5), .inl (k 0, 40, .inl (fun _ => 0))), (q17, .inr (4, [.ref (u18 0), .ref (u18 1), .ref (u18 2), .ref (u18 3), .ref (u18 4), .ref (u18 5), .int 0, .int 0, .int 0])), ((u18 0), .inl (k 0, 200, .inl (fun _ => 0))), ((u18 1), .inl (k 0, 40, .inl (fun _ => 0))), ((u18 2), .inl (k 0, 40, .inl (fun _ => 0))), ((u18 3), .inl (k 0, 40, .inl (fun _ => 0))), ((u18 4), .inl (k 0, 40, .inl (fun _ => 0))), ((u18 5), .inl (k 0, 40, .inl (fun _ => 0))), (q20, .inr (5, [.ref q1, .ref q8, .int 0, .int 0, .int (-2)])), (q1, .inl (k 3, 4, .inr (.inr (.inr (.inr (va_up (va_up (va_up (va_up (fun _ => none) 0 (some q8)) 1 (some q11)) 2 (some q14)) 3 (some q17))))))), (q23, .inr (6, [.null, .null, .null, .null, .null, .int 0, .int 0, .int 0, .int 0, .int 0, .long 0, .int 0]))] := S
  refine lv_dup hx hb d_PB_init_85 rfl ?_
  refine lv_aload_n hx hb d_PB_init_86 rfl (lv_at hl 1 rfl) ?_
  refine r_get C K S 0 rfl rfl clOk_PB 0 (by decide) wf_PB_11 (v := .ref q1) rfl d_PB_init_87 ?_
  refine r_backv (wi := [(q23, .inr (6, [.null, .null, .null, .null, .null, .int 0, .int 0, .int 0, .int 0, .int 0, .long 0, .int 0]))]) (wr := [(h0, .inr (0, [.ref q1, .ref q20, .null, .null, .ref q2, .ref q5, .int 0, .int (-2), .int 0])), (q2, .inr (1, [.ref (u3 0), .ref (u3 1), .ref (u3 2), .ref (u3 3), .ref (u3 4), .ref (u3 5), .ref (u3 7), .ref (u3 9), .ref (u3 11), .ref (u3 13), .int 0, .int 0, .int 0, .int 0])), ((u3 0), .inl (k 4, 3731, .inr (.inr (.inr (.inr (fun _ => none)))))), ((u3 1), .inl (k 0, 40, .inl (fun _ => 0))), ((u3 2), .inl (k 0, 40, .inl (fun _ => 0))), ((u3 3), .inl (k 0, 91, .inl (fun _ => 0))), ((u3 4), .inl (k 0, 40, .inl (fun _ => 0))), ((u3 5), .inr (2, [.ref (u3 6), .int 0, .int 0])), ((u3 6), .inl (k 0, 3, .inl (fun _ => 0))), ((u3 7), .inr (2, [.ref (u3 8), .int 0, .int 0])), ((u3 8), .inl (k 0, 3, .inl (fun _ => 0))), ((u3 9), .inr (2, [.ref (u3 10), .int 0, .int 0])), ((u3 10), .inl (k 0, 3, .inl (fun _ => 0))), ((u3 11), .inr (2, [.ref (u3 12), .int 0, .int 0])), ((u3 12), .inl (k 0, 3, .inl (fun _ => 0))), ((u3 13), .inr (2, [.ref (u3 14), .int 0, .int 0])), ((u3 14), .inl (k 0, 3, .inl (fun _ => 0))), (q5, .inr (3, [.ref (u6 0), .ref (u6 1), .ref (u6 3), .ref (u6 5), .ref (u6 7), .ref (u6 9), .int 0, .int 0])), ((u6 0), .inl (k 4, 4, .inr (.inr (.inr (.inr (va_up (va_up (va_up (va_up (fun _ => none) 0 (some (u6 11))) 1 (some (u6 13))) 2 (some (u6 15))) 3 (some (u6 17)))))))), ((u6 1), .inr (2, [.ref (u6 2), .int 0, .int 0])), ((u6 2), .inl (k 0, 3, .inl (fun _ => 0))), ((u6 3), .inr (2, [.ref (u6 4), .int 0, .int 0])), ((u6 4), .inl (k 0, 3, .inl (fun _ => 0))), ((u6 5), .inr (2, [.ref (u6 6), .int 0, .int 0])), ((u6 6), .inl (k 0, 3, .inl (fun _ => 0))), ((u6 7), .inr (2, [.ref (u6 8), .int 0, .int 0])), ((u6 8), .inl (k 0, 3, .inl (fun _ => 0))), ((u6 9), .inr (2, [.ref (u6 10), .int 0, .int 0])), ((u6 10), .inl (k 0, 3, .inl (fun _ => 0))), ((u6 11), .inr (2, [.ref (u6 12), .int 0, .int 0])), ((u6 12), .inl (k 0, 3, .inl (fun _ => 0))), ((u6 13), .inr (2, [.ref (u6 14), .int 0, .int 0])), ((u6 14), .inl (k 0, 3, .inl (fun _ => 0))), ((u6 15), .inr (2, [.ref (u6 16), .int 0, .int 0])), ((u6 16), .inl (k 0, 3, .inl (fun _ => 0))), ((u6 17), .inr (2, [.ref (u6 18), .int 0, .int 0])), ((u6 18), .inl (k 0, 3, .inl (fun _ => 0))), (q8, .inr (4, [.ref (u9 0), .ref (u9 1), .ref (u9 2), .ref (u9 3), .ref (u9 4), .ref (u9 5), .int 0, .int 0, .int 0])), ((u9 0), .inl (k 0, 200, .inl (fun _ => 0))), ((u9 1), .inl (k 0, 40, .inl (fun _ => 0))), ((u9 2), .inl (k 0, 40, .inl (fun _ => 0))), ((u9 3), .inl (k 0, 40, .inl (fun _ => 0))), ((u9 4), .inl (k 0, 40, .inl (fun _ => 0))), ((u9 5), .inl (k 0, 40, .inl (fun _ => 0))), (q11, .inr (4, [.ref (u12 0), .ref (u12 1), .ref (u12 2), .ref (u12 3), .ref (u12 4), .ref (u12 5), .int 0, .int 0, .int 0])), ((u12 0), .inl (k 0, 200, .inl (fun _ => 0))), ((u12 1), .inl (k 0, 40, .inl (fun _ => 0))), ((u12 2), .inl (k 0, 40, .inl (fun _ => 0))), ((u12 3), .inl (k 0, 40, .inl (fun _ => 0))), ((u12 4), .inl (k 0, 40, .inl (fun _ => 0))), ((u12 5), .inl (k 0, 40, .inl (fun _ => 0))), (q14, .inr (4, [.ref (u15 0), .ref (u15 1), .ref (u15 2), .ref (u15 3), .ref (u15 4), .ref (u15 5), .int 0, .int 0, .int 0])), ((u15 0), .inl (k 0, 200, .inl (fun _ => 0))), ((u15 1), .inl (k 0, 40, .inl (fun _ => 0))), ((u15 2), .inl (k 0, 40, .inl (fun _ => 0))), ((u15 3), .inl (k 0, 40, .inl (fun _ => 0))), ((u15 4), .inl (k 0, 40, .inl (fun _ => 0))), ((u15 5), .inl (k 0, 40, .inl (fun _ => 0))), (q17, .inr (4, [.ref (u18 0), .ref (u18 1), .ref (u18 2), .ref (u18 3), .ref (u18 4), .ref (u18 5), .int 0, .int 0, .int 0])), ((u18 0), .inl (k 0, 200, .inl (fun _ => 0))), ((u18 1), .inl (k 0, 40, .inl (fun _ => 0))), ((u18 2), .inl (k 0, 40, .inl (fun _ => 0))), ((u18 3), .inl (k 0, 40, .inl (fun _ => 0))), ((u18 4), .inl (k 0, 40, .inl (fun _ => 0))), ((u18 5), .inl (k 0, 40, .inl (fun _ => 0))), (q20, .inr (5, [.ref q1, .ref q8, .int 0, .int 0, .int (-2)])), (q1, .inl (k 3, 4, .inr (.inr (.inr (.inr (va_up (va_up (va_up (va_up (fun _ => none) 0 (some q8)) 1 (some q11)) 2 (some q14)) 3 (some q17)))))))]) S hA [67] [0, 1, 2, 3, 4, 5, 6, 7, 8, 9, 10, 11, 12, 13, 14, 15, 16, 17, 18, 19, 20, 21, 22, 23, 24, 25, 26, 27, 28, 29, 30, 31, 32, 33, 34, 35, 36, 37, 38, 39, 40, 41, 42, 43, 44, 45, 46, 47, 48, 49, 50, 51, 52, 53, 54, 55, 56, 57, 58, 59, 60, 61, 62, 63, 64, 65, 66] rfl rfl (by decide) (by decide) (va_runIN (As := [.ref q1]) (rest := [.ref q23, .ref h0]) ⟨hx, hb, C.2.2.1, C.2.2.2.1, C.2.2.2.2.1⟩ (k_Ru_init l G k q23 _ q1) (k_ctorN (n := 1) C K wc_Ru_init rfl rfl wz_Ru xm_PB_45 wn_Ru_init rfl (by decide +kernel) ⟨(Nat.le_of_ble_eq_true rfl), (Nat.le_of_ble_eq_true rfl)⟩) (pr_now K S [67] (by decide) rfl) rfl rfl hl.1 rfl (lv_room (Nat.le_of_ble_eq_true rfl)) d_PB_init_90 ⟨(Nat.le_of_ble_eq_true rfl), (Nat.le_of_ble_eq_true rfl)⟩) (fun u24 H locs hw25 S => ?_)
  have S : Sw G A s.heap _ _ [(h0, .inr (0, [.ref q1, .ref q20, .null, .null, .ref q2, .ref q5, .int 0, .int (-2), .int 0])), (q2, .inr (1, [.ref (u3 0), .ref (u3 1), .ref (u3 2), .ref (u3 3), .ref (u3 4), .ref (u3 5), .ref (u3 7), .ref (u3 9), .ref (u3 11), .ref (u3 13), .int 0, .int 0, .int 0, .int 0])), ((u3 0), .inl (k 4, 3731, .inr (.inr (.inr (.inr (fun _ => none)))))), ((u3 1), .inl (k 0, 40, .inl (fun _ => 0))), ((u3 2), .inl (k 0, 40, .inl (fun _ => 0))), ((u3 3), .inl (k 0, 91, .inl (fun _ => 0))), ((u3 4), .inl (k 0, 40, .inl (fun _ => 0))), ((u3 5), .inr (2, [.ref (u3 6), .int 0, .int 0])), ((u3 6), .inl (k 0, 3, .inl (fun _ => 0))), ((u3 7), .inr (2, [.ref (u3 8), .int 0, .int 0])), ((u3 8), .inl (k 0, 3, .inl (fun _ => 0))), ((u3 9), .inr (2, [.ref (u3 10), .int 0, .int 0])), ((u3 10), .inl (k 0, 3, .inl (fun _ => 0))), ((u3 11), .inr (2, [.ref (u3 12), .int 0, .int 0])), ((u3 12), .inl (k 0, 3, .inl (fun _ => 0))), ((u3 13), .inr (2, [.ref (u3 14), .int 0, .int 0])), ((u3 14), .inl (k 0, 3, .inl (fun _ => 0))), (q5, .inr (3, [.ref (u6 0), .ref (u6 1), .ref (u6 3), .ref (u6 5), .ref (u6 7), .ref (u6 9), .int 0, .int 0])), ((u6 0), .inl (k 4, 4, .inr (.inr (.inr (.inr (va_up (va_up (va_up (va_up (fun _ => none) 0 (some (u6 11))) 1 (some (u6 13))) 2 (some (u6 15))) 3 (some (u6 17)))))))), ((u6 1), .inr (2, [.ref (u6 2), .int 0, .int 0])), ((u6 2), .inl (k 0, 3, .inl (fun _ => 0))), ((u6 3), .inr (2, [.ref (u6 4), .int 0, .int 0])), ((u6 4), .inl (k 0, 3, .inl (fun _ => 0))), ((u6 5), .inr (2, [.ref (u6 6), .int 0, .int 0])), ((u6 6), .inl (k 0, 3, .inl (fun _ => 0))), ((u6 7), .inr (2, [.ref (u6 8), .int 0, .int 0])), ((u6 8), .inl (k 0, 3, .inl (fun _ => 0))), ((u6 9), .inr (2, [.ref (u6 10), .int 0, .int 0])), ((u6 10), .inl (k 0, 3, .inl (fun _ => 0))), ((u6 11), .inr (2, [.ref (u6 12), .int 0, .int 0])), ((u6 12), .inl (k 0, 3, .inl (fun _ => 0))), ((u6 13), .inr (2, [.ref (u6 14), .int 0, .int 0])), ((u6 14), .inl (k 0, 3, .inl (fun _ => 0))), ((u6 15), .inr (2, [.ref (u6 16), .int 0, .int 0])), ((u6 16), .inl (k 0, 3, .inl (fun _ => 0))), ((u6 17), .inr (2, [.ref (u6 18), .int 0, .int 0])), ((u6 18), .inl (k 0, 3, .inl (fun _ => 0))), (q8, .inr (4, [.ref (u9 0), .ref (u9 1), .ref (u9 2), .ref (u9 3), .ref (u9 4), .ref (u9 5), .int 0, .int 0, .int 0])), ((u9 0), .inl (k 0, 200, .inl (fun _ => 0))), ((u9 1), .inl (k 0, 40, .inl (fun _ => 0))), ((u9 2), .inl (k 0, 40, .inl (fun _ => 0))), ((u9 3), .inl (k 0, 40, .inl (fun _ => 0))), ((u9 4), .inl (k 0, 40, .inl (fun _ => 0))), ((u9 5), .inl (k 0, 40, .inl (fun _ => 0))), (q11, .inr (4, [.ref (u12 0), .ref (u12 1), .ref (u12 2), .ref (u12 3), .ref (u12 4), .ref (u12 5), .int 0, .int 0, .int 0])), ((u12 0), .inl (k 0, 200, .inl (fun _ => 0))), ((u12 1), .inl (k 0, 40, .inl (fun _ => 0))), ((u12 2), .inl (k 0, 40, .inl (fun _ => 0))), ((u12 3), .inl (k 0, 40, .inl (fun _ => 0))), ((u12 4), .inl (k 0, 40, .inl (fun _ => 0))), ((u12 5), .inl (k 0, 40, .inl (fun _ => 0))), (q14, .inr (4, [.ref (u15 0), .ref (u15 1), .ref (u15 2), .ref (u15 3), .ref (u15 4), .ref (u15 5), .int 0, .int 0, .int 0])), ((u15 0), .inl (k 0, 200, .inl (fun _ => 0))), ((u15 1), .inl (k 0, 40, .inl (fun _ => 0))), ((u15 2), .inl (k 0, 40, .inl (fun _ => 0))), ((u15 3), .inl (k 0, 40, .inl (fun _ => 0))), ((u15 4), .inl (k 0, 40, .inl (fun _ => 0))), ((u15 5), .inl (k 0, 40, .inl (fun _ => 0))), (q17, .inr (4, [.ref (u18 0), .ref (u18 1), .ref (u18 2), .ref (u18 3), .ref (u18 4), .ref (u18 5), .int 0, .int 0, .int 0])), ((u18 0), .inl (k 0, 200, .inl (fun _ => 0))), ((u18 1), .inl (k 0, 40, .inl (fun _ => 0))), ((u18 2), .inl (k 0, 40, .inl (fun _ => 0))), ((u18 3), .inl (k 0, 40, .inl (fun _ => 0))), ((u18 4), .inl (k 0, 40, .inl (fun _ => 0))), ((u18 5), .inl (k 0, 40, .inl (fun _ => 0))), (q20, .inr (5, [.ref q1, .ref q8, .int 0, .int 0, .int (-2)])), (q1, .inl (k 3, 4, .inr (.inr (.inr (.inr (va_up (va_up (va_up (va_up (fun _ => none) 0 (some q8)) 1 (some q11)) 2 (some q14)) 3 (some q17))))))), (q23, .inr (6, [.ref q1, .ref (u24 0), .ref (u24 1), .ref (u24 2), .ref (u24 3), .int 0, .int 0, .int 0, .int 0, .int 0, .long 0, .int (-2)])), ((u24 0), .inl (k 0, 60, .inl (fun _ => 0))), ((u24 1), .inl (k 0, 1080, .inl (fun _ => 0))), ((u24 2), .inl (k 0, 960, .inl (fun _ => 0))), ((u24 3), .inl (k 0, 60, .inl (fun _ => 0)))] := S
  refine r_putF C K S 0 rfl rfl clOk_PB 2 (by decide) wf_PB_46 rfl rfl (ty := .object "PotentialBench$Runner") (v := .ref q23) (by decide +kernel) rfl rfl (Nat.le_of_ble_eq_true rfl) (fs' := [.ref q1, .ref q20, .ref q23, .null, .ref q2, .ref q5, .int 0, .int (-2), .int 0]) (ws' := [(h0, .inr (0, [.ref q1, .ref q20, .ref q23, .null, .ref q2, .ref q5, .int 0, .int (-2), .int 0])), (q2, .inr (1, [.ref (u3 0), .ref (u3 1), .ref (u3 2), .ref (u3 3), .ref (u3 4), .ref (u3 5), .ref (u3 7), .ref (u3 9), .ref (u3 11), .ref (u3 13), .int 0, .int 0, .int 0, .int 0])), ((u3 0), .inl (k 4, 3731, .inr (.inr (.inr (.inr (fun _ => none)))))), ((u3 1), .inl (k 0, 40, .inl (fun _ => 0))), ((u3 2), .inl (k 0, 40, .inl (fun _ => 0))), ((u3 3), .inl (k 0, 91, .inl (fun _ => 0))), ((u3 4), .inl (k 0, 40, .inl (fun _ => 0))), ((u3 5), .inr (2, [.ref (u3 6), .int 0, .int 0])), ((u3 6), .inl (k 0, 3, .inl (fun _ => 0))), ((u3 7), .inr (2, [.ref (u3 8), .int 0, .int 0])), ((u3 8), .inl (k 0, 3, .inl (fun _ => 0))), ((u3 9), .inr (2, [.ref (u3 10), .int 0, .int 0])), ((u3 10), .inl (k 0, 3, .inl (fun _ => 0))), ((u3 11), .inr (2, [.ref (u3 12), .int 0, .int 0])), ((u3 12), .inl (k 0, 3, .inl (fun _ => 0))), ((u3 13), .inr (2, [.ref (u3 14), .int 0, .int 0])), ((u3 14), .inl (k 0, 3, .inl (fun _ => 0))), (q5, .inr (3, [.ref (u6 0), .ref (u6 1), .ref (u6 3), .ref (u6 5), .ref (u6 7), .ref (u6 9), .int 0, .int 0])), ((u6 0), .inl (k 4, 4, .inr (.inr (.inr (.inr (va_up (va_up (va_up (va_up (fun _ => none) 0 (some (u6 11))) 1 (some (u6 13))) 2 (some (u6 15))) 3 (some (u6 17)))))))), ((u6 1), .inr (2, [.ref (u6 2), .int 0, .int 0])), ((u6 2), .inl (k 0, 3, .inl (fun _ => 0))), ((u6 3), .inr (2, [.ref (u6 4), .int 0, .int 0])), ((u6 4), .inl (k 0, 3, .inl (fun _ => 0))), ((u6 5), .inr (2, [.ref (u6 6), .int 0, .int 0])), ((u6 6), .inl (k 0, 3, .inl (fun _ => 0))), ((u6 7), .inr (2, [.ref (u6 8), .int 0, .int 0])), ((u6 8), .inl (k 0, 3, .inl (fun _ => 0))), ((u6 9), .inr (2, [.ref (u6 10), .int 0, .int 0])), ((u6 10), .inl (k 0, 3, .inl (fun _ => 0))), ((u6 11), .inr (2, [.ref (u6 12), .int 0, .int 0])), ((u6 12), .inl (k 0, 3, .inl (fun _ => 0))), ((u6 13), .inr (2, [.ref (u6 14), .int 0, .int 0])), ((u6 14), .inl (k 0, 3, .inl (fun _ => 0))), ((u6 15), .inr (2, [.ref (u6 16), .int 0, .int 0])), ((u6 16), .inl (k 0, 3, .inl (fun _ => 0))), ((u6 17), .inr (2, [.ref (u6 18), .int 0, .int 0])), ((u6 18), .inl (k 0, 3, .inl (fun _ => 0))), (q8, .inr (4, [.ref (u9 0), .ref (u9 1), .ref (u9 2), .ref (u9 3), .ref (u9 4), .ref (u9 5), .int 0, .int 0, .int 0])), ((u9 0), .inl (k 0, 200, .inl (fun _ => 0))), ((u9 1), .inl (k 0, 40, .inl (fun _ => 0))), ((u9 2), .inl (k 0, 40, .inl (fun _ => 0))), ((u9 3), .inl (k 0, 40, .inl (fun _ => 0))), ((u9 4), .inl (k 0, 40, .inl (fun _ => 0))), ((u9 5), .inl (k 0, 40, .inl (fun _ => 0))), (q11, .inr (4, [.ref (u12 0), .ref (u12 1), .ref (u12 2), .ref (u12 3), .ref (u12 4), .ref (u12 5), .int 0, .int 0, .int 0])), ((u12 0), .inl (k 0, 200, .inl (fun _ => 0))), ((u12 1), .inl (k 0, 40, .inl (fun _ => 0))), ((u12 2), .inl (k 0, 40, .inl (fun _ => 0))), ((u12 3), .inl (k 0, 40, .inl (fun _ => 0))), ((u12 4), .inl (k 0, 40, .inl (fun _ => 0))), ((u12 5), .inl (k 0, 40, .inl (fun _ => 0))), (q14, .inr (4, [.ref (u15 0), .ref (u15 1), .ref (u15 2), .ref (u15 3), .ref (u15 4), .ref (u15 5), .int 0, .int 0, .int 0])), ((u15 0), .inl (k 0, 200, .inl (fun _ => 0))), ((u15 1), .inl (k 0, 40, .inl (fun _ => 0))), ((u15 2), .inl (k 0, 40, .inl (fun _ => 0))), ((u15 3), .inl (k 0, 40, .inl (fun _ => 0))), ((u15 4), .inl (k 0, 40, .inl (fun _ => 0))), ((u15 5), .inl (k 0, 40, .inl (fun _ => 0))), (q17, .inr (4, [.ref (u18 0), .ref (u18 1), .ref (u18 2), .ref (u18 3), .ref (u18 4), .ref (u18 5), .int 0, .int 0, .int 0])), ((u18 0), .inl (k 0, 200, .inl (fun _ => 0))), ((u18 1), .inl (k 0, 40, .inl (fun _ => 0))), ((u18 2), .inl (k 0, 40, .inl (fun _ => 0))), ((u18 3), .inl (k 0, 40, .inl (fun _ => 0))), ((u18 4), .inl (k 0, 40, .inl (fun _ => 0))), ((u18 5), .inl (k 0, 40, .inl (fun _ => 0))), (q20, .inr (5, [.ref q1, .ref q8, .int 0, .int 0, .int (-2)])), (q1, .inl (k 3, 4, .inr (.inr (.inr (.inr (va_up (va_up (va_up (va_up (fun _ => none) 0 (some q8)) 1 (some q11)) 2 (some q14)) 3 (some q17))))))), (q23, .inr (6, [.ref q1, .ref (u24 0), .ref (u24 1), .ref (u24 2), .ref (u24 3), .int 0, .int 0, .int 0, .int 0, .int 0, .long 0, .int (-2)])), ((u24 0), .inl (k 0, 60, .inl (fun _ => 0))), ((u24 1), .inl (k 0, 1080, .inl (fun _ => 0))), ((u24 2), .inl (k 0, 960, .inl (fun _ => 0))), ((u24 3), .inl (k 0, 60, .inl (fun _ => 0)))]) rfl rfl d_PB_init_93 (fun H locs S => ?_)
  refine lv_aload_n hx hb d_PB_init_96 rfl (lv_at hl 1 rfl) ?_
  refine r_new C K S hA 7 rfl clOk_Ne wl_PB_50 wi_Ne wz_Ne t_Ne k_Ne (fs := [.null, .null, .null, .null, .null, .null, .null, .null, .null, .int 0, .int 0, .int 0]) df_Ne (Nat.le_of_ble_eq_true rfl) (Nat.le_of_ble_eq_true rfl) d_PB_init_97 (fun q26 H S => ?_)
  have S : Sw G A s.heap _ _ [(h0, .inr (0, [.ref q1, .ref q20, .ref q23, .null, .ref q2, .ref q5, .int 0, .int (-2), .int 0])), (q2, .inr (1, [.ref (u3 0), .ref (u3 1), .ref (u3 2), .ref (u3 3), .ref (u3 4), .ref (u3 5), .ref (u3 7), .ref (u3 9), .ref (u3 11), .ref (u3 13), .int 0, .int 0, .int 0, .int 0])), ((u3 0), .inl (k 4, 3731, .inr (.inr (.inr (.inr (fun _ => none)))))), ((u3 1), .inl (k 0, 40, .inl (fun _ => 0))), ((u3 2), .inl (k 0, 40, .inl (fun _ => 0))), ((u3 3), .inl (k 0, 91, .inl (fun _ => 0))), ((u3 4), .inl (k 0, 40, .inl (fun _ => 0))), ((u3 5), .inr (2, [.ref (u3 6), .int 0, .int 0])), ((u3 6), .inl (k 0, 3, .inl (fun _ => 0))), ((u3 7), .inr (2, [.ref (u3 8), .int 0, .int 0])), ((u3 8), .inl (k 0, 3, .inl (fun _ => 0))), ((u3 9), .inr (2, [.ref (u3 10), .int 0, .int 0])), ((u3 10), .inl (k 0, 3, .inl (fun _ => 0))), ((u3 11), .inr (2, [.ref (u3 12), .int 0, .int 0])), ((u3 12), .inl (k 0, 3, .inl (fun _ => 0))), ((u3 13), .inr (2, [.ref (u3 14), .int 0, .int 0])), ((u3 14), .inl (k 0, 3, .inl (fun _ => 0))), (q5, .inr (3, [.ref (u6 0), .ref (u6 1), .ref (u6 3), .ref (u6 5), .ref (u6 7), .ref (u6 9), .int 0, .int 0])), ((u6 0), .inl (k 4, 4, .inr (.inr (.inr (.inr (va_up (va_up (va_up (va_up (fun _ => none) 0 (some (u6 11))) 1 (some (u6 13))) 2 (some (u6 15))) 3 (some (u6 17)))))))), ((u6 1), .inr (2, [.ref (u6 2), .int 0, .int 0])), ((u6 2), .inl (k 0, 3, .inl (fun _ => 0))), ((u6 3), .inr (2, [.ref (u6 4), .int 0, .int 0])), ((u6 4), .inl (k 0, 3, .inl (fun _ => 0))), ((u6 5), .inr (2, [.ref (u6 6), .int 0, .int 0])), ((u6 6), .inl (k 0, 3, .inl (fun _ => 0))), ((u6 7), .inr (2, [.ref (u6 8), .int 0, .int 0])), ((u6 8), .inl (k 0, 3, .inl (fun _ => 0))), ((u6 9), .inr (2, [.ref (u6 10), .int 0, .int 0])), ((u6 10), .inl (k 0, 3, .inl (fun _ => 0))), ((u6 11), .inr (2, [.ref (u6 12), .int 0, .int 0])), ((u6 12), .inl (k 0, 3, .inl (fun _ => 0))), ((u6 13), .inr (2, [.ref (u6 14), .int 0, .int 0])), ((u6 14), .inl (k 0, 3, .inl (fun _ => 0))), ((u6 15), .inr (2, [.ref (u6 16), .int 0, .int 0])), ((u6 16), .inl (k 0, 3, .inl (fun _ => 0))), ((u6 17), .inr (2, [.ref (u6 18), .int 0, .int 0])), ((u6 18), .inl (k 0, 3, .inl (fun _ => 0))), (q8, .inr (4, [.ref (u9 0), .ref (u9 1), .ref (u9 2), .ref (u9 3), .ref (u9 4), .ref (u9 5), .int 0, .int 0, .int 0])), ((u9 0), .inl (k 0, 200, .inl (fun _ => 0))), ((u9 1), .inl (k 0, 40, .inl (fun _ => 0))), ((u9 2), .inl (k 0, 40, .inl (fun _ => 0))), ((u9 3), .inl (k 0, 40, .inl (fun _ => 0))), ((u9 4), .inl (k 0, 40, .inl (fun _ => 0))), ((u9 5), .inl (k 0, 40, .inl (fun _ => 0))), (q11, .inr (4, [.ref (u12 0), .ref (u12 1), .ref (u12 2), .ref (u12 3), .ref (u12 4), .ref (u12 5), .int 0, .int 0, .int 0])), ((u12 0), .inl (k 0, 200, .inl (fun _ => 0))), ((u12 1), .inl (k 0, 40, .inl (fun _ => 0))), ((u12 2), .inl (k 0, 40, .inl (fun _ => 0))), ((u12 3), .inl (k 0, 40, .inl (fun _ => 0))), ((u12 4), .inl (k 0, 40, .inl (fun _ => 0))), ((u12 5), .inl (k 0, 40, .inl (fun _ => 0))), (q14, .inr (4, [.ref (u15 0), .ref (u15 1), .ref (u15 2), .ref (u15 3), .ref (u15 4), .ref (u15 5), .int 0, .int 0, .int 0])), ((u15 0), .inl (k 0, 200, .inl (fun _ => 0))), ((u15 1), .inl (k 0, 40, .inl (fun _ => 0))), ((u15 2), .inl (k 0, 40, .inl (fun _ => 0))), ((u15 3), .inl (k 0, 40, .inl (fun _ => 0))), ((u15 4), .inl (k 0, 40, .inl (fun _ => 0))), ((u15 5), .inl (k 0, 40, .inl (fun _ => 0))), (q17, .inr (4, [.ref (u18 0), .ref (u18 1), .ref (u18 2), .ref (u18 3), .ref (u18 4), .ref (u18 5), .int 0, .int 0, .int 0])), ((u18 0), .inl (k 0, 200, .inl (fun _ => 0))), ((u18 1), .inl (k 0, 40, .inl (fun _ => 0))), ((u18 2), .inl (k 0, 40, .inl (fun _ => 0))), ((u18 3), .inl (k 0, 40, .inl (fun _ => 0))), ((u18 4), .inl (k 0, 40, .inl (fun _ => 0))), ((u18 5), .inl (k 0, 40, .inl (fun _ => 0))), (q20, .inr (5, [.ref q1, .ref q8, .int 0, .int 0, .int (-2)])), (q1, .inl (k 3, 4, .inr (.inr (.inr (.inr (va_up (va_up (va_up (va_up (fun _ => none) 0 (some q8)) 1 (some q11)) 2 (some q14)) 3 (some q17))))))), (q23, .inr (6, [.ref q1, .ref (u24 0), .ref (u24 1), .ref (u24 2), .ref (u24 3), .int 0, .int 0, .int 0, .int 0, .int 0, .long 0, .int (-2)])), ((u24 0), .inl (k 0, 60, .inl (fun _ => 0))), ((u24 1), .inl (k 0, 1080, .inl (fun _ => 0))), ((u24 2), .inl (k 0, 960, .inl (fun _ => 0))), ((u24 3), .inl (k 0, 60, .inl (fun _ => 0))), (q26, .inr (7, [.null, .null, .null, .null, .null, .null, .null, .null, .null, .int 0, .int 0, .int 0]))] := S
  refine lv_dup hx hb d_PB_init_100 rfl ?_
  refine lv_aload_n hx hb d_PB_init_101 rfl (lv_at hl 1 rfl) ?_
  refine r_get C K S 0 rfl rfl clOk_PB 0 (by decide) wf_PB_11 (v := .ref q1) rfl d_PB_init_102 ?_
  refine r_backv (wi := [(q26, .inr (7, [.null, .null, .null, .null, .null, .null, .null, .null, .null, .int 0, .int 0, .int 0])), (q1, .inl (k 3, 4, .inr (.inr (.inr (.inr (va_up (va_up (va_up (va_up (fun _ => none) 0 (some q8)) 1 (some q11)) 2 (some q14)) 3 (some q17)))))))]) (wr := [(h0, .inr (0, [.ref q1, .ref q20, .ref q23, .null, .ref q2, .ref q5, .int 0, .int (-2), .int 0])), (q2, .inr (1, [.ref (u3 0), .ref (u3 1), .ref (u3 2), .ref (u3 3), .ref (u3 4), .ref (u3 5), .ref (u3 7), .ref (u3 9), .ref (u3 11), .ref (u3 13), .int 0, .int 0, .int 0, .int 0])), ((u3 0), .inl (k 4, 3731, .inr (.inr (.inr (.inr (fun _ => none)))))), ((u3 1), .inl (k 0, 40, .inl (fun _ => 0))), ((u3 2), .inl (k 0, 40, .inl (fun _ => 0))), ((u3 3), .inl (k 0, 91, .inl (fun _ => 0))), ((u3 4), .inl (k 0, 40, .inl (fun _ => 0))), ((u3 5), .inr (2, [.ref (u3 6), .int 0, .int 0])), ((u3 6), .inl (k 0, 3, .inl (fun _ => 0))), ((u3 7), .inr (2, [.ref (u3 8), .int 0, .int 0])), ((u3 8), .inl (k 0, 3, .inl (fun _ => 0))), ((u3 9), .inr (2, [.ref (u3 10), .int 0, .int 0])), ((u3 10), .inl (k 0, 3, .inl (fun _ => 0))), ((u3 11), .inr (2, [.ref (u3 12), .int 0, .int 0])), ((u3 12), .inl (k 0, 3, .inl (fun _ => 0))), ((u3 13), .inr (2, [.ref (u3 14), .int 0, .int 0])), ((u3 14), .inl (k 0, 3, .inl (fun _ => 0))), (q5, .inr (3, [.ref (u6 0), .ref (u6 1), .ref (u6 3), .ref (u6 5), .ref (u6 7), .ref (u6 9), .int 0, .int 0])), ((u6 0), .inl (k 4, 4, .inr (.inr (.inr (.inr (va_up (va_up (va_up (va_up (fun _ => none) 0 (some (u6 11))) 1 (some (u6 13))) 2 (some (u6 15))) 3 (some (u6 17)))))))), ((u6 1), .inr (2, [.ref (u6 2), .int 0, .int 0])), ((u6 2), .inl (k 0, 3, .inl (fun _ => 0))), ((u6 3), .inr (2, [.ref (u6 4), .int 0, .int 0])), ((u6 4), .inl (k 0, 3, .inl (fun _ => 0))), ((u6 5), .inr (2, [.ref (u6 6), .int 0, .int 0])), ((u6 6), .inl (k 0, 3, .inl (fun _ => 0))), ((u6 7), .inr (2, [.ref (u6 8), .int 0, .int 0])), ((u6 8), .inl (k 0, 3, .inl (fun _ => 0))), ((u6 9), .inr (2, [.ref (u6 10), .int 0, .int 0])), ((u6 10), .inl (k 0, 3, .inl (fun _ => 0))), ((u6 11), .inr (2, [.ref (u6 12), .int 0, .int 0])), ((u6 12), .inl (k 0, 3, .inl (fun _ => 0))), ((u6 13), .inr (2, [.ref (u6 14), .int 0, .int 0])), ((u6 14), .inl (k 0, 3, .inl (fun _ => 0))), ((u6 15), .inr (2, [.ref (u6 16), .int 0, .int 0])), ((u6 16), .inl (k 0, 3, .inl (fun _ => 0))), ((u6 17), .inr (2, [.ref (u6 18), .int 0, .int 0])), ((u6 18), .inl (k 0, 3, .inl (fun _ => 0))), (q8, .inr (4, [.ref (u9 0), .ref (u9 1), .ref (u9 2), .ref (u9 3), .ref (u9 4), .ref (u9 5), .int 0, .int 0, .int 0])), ((u9 0), .inl (k 0, 200, .inl (fun _ => 0))), ((u9 1), .inl (k 0, 40, .inl (fun _ => 0))), ((u9 2), .inl (k 0, 40, .inl (fun _ => 0))), ((u9 3), .inl (k 0, 40, .inl (fun _ => 0))), ((u9 4), .inl (k 0, 40, .inl (fun _ => 0))), ((u9 5), .inl (k 0, 40, .inl (fun _ => 0))), (q11, .inr (4, [.ref (u12 0), .ref (u12 1), .ref (u12 2), .ref (u12 3), .ref (u12 4), .ref (u12 5), .int 0, .int 0, .int 0])), ((u12 0), .inl (k 0, 200, .inl (fun _ => 0))), ((u12 1), .inl (k 0, 40, .inl (fun _ => 0))), ((u12 2), .inl (k 0, 40, .inl (fun _ => 0))), ((u12 3), .inl (k 0, 40, .inl (fun _ => 0))), ((u12 4), .inl (k 0, 40, .inl (fun _ => 0))), ((u12 5), .inl (k 0, 40, .inl (fun _ => 0))), (q14, .inr (4, [.ref (u15 0), .ref (u15 1), .ref (u15 2), .ref (u15 3), .ref (u15 4), .ref (u15 5), .int 0, .int 0, .int 0])), ((u15 0), .inl (k 0, 200, .inl (fun _ => 0))), ((u15 1), .inl (k 0, 40, .inl (fun _ => 0))), ((u15 2), .inl (k 0, 40, .inl (fun _ => 0))), ((u15 3), .inl (k 0, 40, .inl (fun _ => 0))), ((u15 4), .inl (k 0, 40, .inl (fun _ => 0))), ((u15 5), .inl (k 0, 40, .inl (fun _ => 0))), (q17, .inr (4, [.ref (u18 0), .ref (u18 1), .ref (u18 2), .ref (u18 3), .ref (u18 4), .ref (u18 5), .int 0, .int 0, .int 0])), ((u18 0), .inl (k 0, 200, .inl (fun _ => 0))), ((u18 1), .inl (k 0, 40, .inl (fun _ => 0))), ((u18 2), .inl (k 0, 40, .inl (fun _ => 0))), ((u18 3), .inl (k 0, 40, .inl (fun _ => 0))), ((u18 4), .inl (k 0, 40, .inl (fun _ => 0))), ((u18 5), .inl (k 0, 40, .inl (fun _ => 0))), (q20, .inr (5, [.ref q1, .ref q8, .int 0, .int 0, .int (-2)])), (q23, .inr (6, [.ref q1, .ref (u24 0), .ref (u24 1), .ref (u24 2), .ref (u24 3), .int 0, .int 0, .int 0, .int 0, .int 0, .long 0, .int (-2)])), ((u24 0), .inl (k 0, 60, .inl (fun _ => 0))), ((u24 1), .inl (k 0, 1080, .inl (fun _ => 0))), ((u24 2), .inl (k 0, 960, .inl (fun _ => 0))), ((u24 3), .inl (k 0, 60, .inl (fun _ => 0)))]) S hA [72, 66] [0, 1, 2, 3, 4, 5, 6, 7, 8, 9, 10, 11, 12, 13, 14, 15, 16, 17, 18, 19, 20, 21, 22, 23, 24, 25, 26, 27, 28, 29, 30, 31, 32, 33, 34, 35, 36, 37, 38, 39, 40, 41, 42, 43, 44, 45, 46, 47, 48, 49, 50, 51, 52, 53, 54, 55, 56, 57, 58, 59, 60, 61, 62, 63, 64, 65, 67, 68, 69, 70, 71] rfl rfl (by decide) (by decide) (va_runIN (As := [.ref q1]) (rest := [.ref q26, .ref h0]) ⟨hx, hb, C.2.2.1, C.2.2.2.1, C.2.2.2.2.1⟩ (k_Ne_init l G k q26 _ q1 q8 (va_up (va_up (va_up (va_up (fun _ => none) 0 (some q8)) 1 (some q11)) 2 (some q14)) 3 (some q17)) rfl) (k_ctorN (n := 1) C K wc_Ne_init rfl rfl wz_Ne xm_PB_52 wn_Ne_init rfl (by decide +kernel) ⟨(Nat.le_of_ble_eq_true rfl), (Nat.le_of_ble_eq_true rfl)⟩) (pr_now K S [72, 66] (by decide) rfl) rfl rfl hl.1 rfl (lv_room (Nat.le_of_ble_eq_true rfl)) d_PB_init_105 ⟨(Nat.le_of_ble_eq_true rfl), (Nat.le_of_ble_eq_true rfl)⟩) (fun u27 H locs hw28 S => ?_)
  have S : Sw G A s.heap _ _ [(h0, .inr (0, [.ref q1, .ref q20, .ref q23, .null, .ref q2, .ref q5, .int 0, .int (-2), .int 0])), (q2, .inr (1, [.ref (u3 0), .ref (u3 1), .ref (u3 2), .ref (u3 3), .ref (u3 4), .ref (u3 5), .ref (u3 7), .ref (u3 9), .ref (u3 11), .ref (u3 13), .int 0, .int 0, .int 0, .int 0])), ((u3 0), .inl (k 4, 3731, .inr (.inr (.inr (.inr (fun _ => none)))))), ((u3 1), .inl (k 0, 40, .inl (fun _ => 0))), ((u3 2), .inl (k 0, 40, .inl (fun _ => 0))), ((u3 3), .inl (k 0, 91, .inl (fun _ => 0))), ((u3 4), .inl (k 0, 40, .inl (fun _ => 0))), ((u3 5), .inr (2, [.ref (u3 6), .int 0, .int 0])), ((u3 6), .inl (k 0, 3, .inl (fun _ => 0))), ((u3 7), .inr (2, [.ref (u3 8), .int 0, .int 0])), ((u3 8), .inl (k 0, 3, .inl (fun _ => 0))), ((u3 9), .inr (2, [.ref (u3 10), .int 0, .int 0])), ((u3 10), .inl (k 0, 3, .inl (fun _ => 0))), ((u3 11), .inr (2, [.ref (u3 12), .int 0, .int 0])), ((u3 12), .inl (k 0, 3, .inl (fun _ => 0))), ((u3 13), .inr (2, [.ref (u3 14), .int 0, .int 0])), ((u3 14), .inl (k 0, 3, .inl (fun _ => 0))), (q5, .inr (3, [.ref (u6 0), .ref (u6 1), .ref (u6 3), .ref (u6 5), .ref (u6 7), .ref (u6 9), .int 0, .int 0])), ((u6 0), .inl (k 4, 4, .inr (.inr (.inr (.inr (va_up (va_up (va_up (va_up (fun _ => none) 0 (some (u6 11))) 1 (some (u6 13))) 2 (some (u6 15))) 3 (some (u6 17)))))))), ((u6 1), .inr (2, [.ref (u6 2), .int 0, .int 0])), ((u6 2), .inl (k 0, 3, .inl (fun _ => 0))), ((u6 3), .inr (2, [.ref (u6 4), .int 0, .int 0])), ((u6 4), .inl (k 0, 3, .inl (fun _ => 0))), ((u6 5), .inr (2, [.ref (u6 6), .int 0, .int 0])), ((u6 6), .inl (k 0, 3, .inl (fun _ => 0))), ((u6 7), .inr (2, [.ref (u6 8), .int 0, .int 0])), ((u6 8), .inl (k 0, 3, .inl (fun _ => 0))), ((u6 9), .inr (2, [.ref (u6 10), .int 0, .int 0])), ((u6 10), .inl (k 0, 3, .inl (fun _ => 0))), ((u6 11), .inr (2, [.ref (u6 12), .int 0, .int 0])), ((u6 12), .inl (k 0, 3, .inl (fun _ => 0))), ((u6 13), .inr (2, [.ref (u6 14), .int 0, .int 0])), ((u6 14), .inl (k 0, 3, .inl (fun _ => 0))), ((u6 15), .inr (2, [.ref (u6 16), .int 0, .int 0])), ((u6 16), .inl (k 0, 3, .inl (fun _ => 0))), ((u6 17), .inr (2, [.ref (u6 18), .int 0, .int 0])), ((u6 18), .inl (k 0, 3, .inl (fun _ => 0))), (q8, .inr (4, [.ref (u9 0), .ref (u9 1), .ref (u9 2), .ref (u9 3), .ref (u9 4), .ref (u9 5), .int 0, .int 0, .int 0])), ((u9 0), .inl (k 0, 200, .inl (fun _ => 0))), ((u9 1), .inl (k 0, 40, .inl (fun _ => 0))), ((u9 2), .inl (k 0, 40, .inl (fun _ => 0))), ((u9 3), .inl (k 0, 40, .inl (fun _ => 0))), ((u9 4), .inl (k 0, 40, .inl (fun _ => 0))), ((u9 5), .inl (k 0, 40, .inl (fun _ => 0))), (q11, .inr (4, [.ref (u12 0), .ref (u12 1), .ref (u12 2), .ref (u12 3), .ref (u12 4), .ref (u12 5), .int 0, .int 0, .int 0])), ((u12 0), .inl (k 0, 200, .inl (fun _ => 0))), ((u12 1), .inl (k 0, 40, .inl (fun _ => 0))), ((u12 2), .inl (k 0, 40, .inl (fun _ => 0))), ((u12 3), .inl (k 0, 40, .inl (fun _ => 0))), ((u12 4), .inl (k 0, 40, .inl (fun _ => 0))), ((u12 5), .inl (k 0, 40, .inl (fun _ => 0))), (q14, .inr (4, [.ref (u15 0), .ref (u15 1), .ref (u15 2), .ref (u15 3), .ref (u15 4), .ref (u15 5), .int 0, .int 0, .int 0])), ((u15 0), .inl (k 0, 200, .inl (fun _ => 0))), ((u15 1), .inl (k 0, 40, .inl (fun _ => 0))), ((u15 2), .inl (k 0, 40, .inl (fun _ => 0))), ((u15 3), .inl (k 0, 40, .inl (fun _ => 0))), ((u15 4), .inl (k 0, 40, .inl (fun _ => 0))), ((u15 5), .inl (k 0, 40, .inl (fun _ => 0))), (q17, .inr (4, [.ref (u18 0), .ref (u18 1), .ref (u18 2), .ref (u18 3), .ref (u18 4), .ref (u18 5), .int 0, .int 0, .int 0])), ((u18 0), .inl (k 0, 200, .inl (fun _ => 0))), ((u18 1), .inl (k 0, 40, .inl (fun _ => 0))), ((u18 2), .inl (k 0, 40, .inl (fun _ => 0))), ((u18 3), .inl (k 0, 40, .inl (fun _ => 0))), ((u18 4), .inl (k 0, 40, .inl (fun _ => 0))), ((u18 5), .inl (k 0, 40, .inl (fun _ => 0))), (q20, .inr (5, [.ref q1, .ref q8, .int 0, .int 0, .int (-2)])), (q23, .inr (6, [.ref q1, .ref (u24 0), .ref (u24 1), .ref (u24 2), .ref (u24 3), .int 0, .int 0, .int 0, .int 0, .int 0, .long 0, .int (-2)])), ((u24 0), .inl (k 0, 60, .inl (fun _ => 0))), ((u24 1), .inl (k 0, 1080, .inl (fun _ => 0))), ((u24 2), .inl (k 0, 960, .inl (fun _ => 0))), ((u24 3), .inl (k 0, 60, .inl (fun _ => 0))), (q26, .inr (7, [.ref q1, .ref (u27 0), .ref (u27 1), .ref (u27 2), .ref (u27 3), .ref (u27 4), .ref (u27 5), .ref (u27 6), .ref q8, .int 0, .int 0, .int 0])), ((u27 0), .inl (k 0, 4, .inl (fun _ => 0))), ((u27 1), .inl (k 5, 90, .inr (.inr (.inr (.inr (fun j => some ((u27 1) + 1 + j))))))), ((u27 2), .inl (k 0, 41, .inl (fun _ => 0))), ((u27 3), .inl (k 0, 41, .inl (fun _ => 0))), ((u27 4), .inl (k 5, 306, .inr (.inr (.inr (.inr (fun j => some ((u27 4) + 1 + j))))))), ((u27 5), .inl (k 5, 17, .inr (.inr (.inr (.inr (fun j => some ((u27 5) + 1 + j))))))), ((u27 6), .inl (k 5, 17, .inr (.inr (.inr (.inr (fun j => some ((u27 6) + 1 + j))))))), (q1, .inl (k 3, 4, .inr (.inr (.inr (.inr (va_up (va_up (va_up (va_up (fun _ => none) 0 (some q8)) 1 (some q11)) 2 (some q14)) 3 (some q17)))))))] := S
  refine r_putF C K S 0 rfl rfl clOk_PB 3 (by decide) wf_PB_53 rfl rfl (ty := .object "PotentialBench$Needs") (v := .ref q26) (by decide +kernel) rfl rfl (Nat.le_of_ble_eq_true rfl) (fs' := [.ref q1, .ref q20, .ref q23, .ref q26, .ref q2, .ref q5, .int 0, .int (-2), .int 0]) (ws' := [(h0, .inr (0, [.ref q1, .ref q20, .ref q23, .ref q26, .ref q2, .ref q5, .int 0, .int (-2), .int 0])), (q2, .inr (1, [.ref (u3 0), .ref (u3 1), .ref (u3 2), .ref (u3 3), .ref (u3 4), .ref (u3 5), .ref (u3 7), .ref (u3 9), .ref (u3 11), .ref (u3 13), .int 0, .int 0, .int 0, .int 0])), ((u3 0), .inl (k 4, 3731, .inr (.inr (.inr (.inr (fun _ => none)))))), ((u3 1), .inl (k 0, 40, .inl (fun _ => 0))), ((u3 2), .inl (k 0, 40, .inl (fun _ => 0))), ((u3 3), .inl (k 0, 91, .inl (fun _ => 0))), ((u3 4), .inl (k 0, 40, .inl (fun _ => 0))), ((u3 5), .inr (2, [.ref (u3 6), .int 0, .int 0])), ((u3 6), .inl (k 0, 3, .inl (fun _ => 0))), ((u3 7), .inr (2, [.ref (u3 8), .int 0, .int 0])), ((u3 8), .inl (k 0, 3, .inl (fun _ => 0))), ((u3 9), .inr (2, [.ref (u3 10), .int 0, .int 0])), ((u3 10), .inl (k 0, 3, .inl (fun _ => 0))), ((u3 11), .inr (2, [.ref (u3 12), .int 0, .int 0])), ((u3 12), .inl (k 0, 3, .inl (fun _ => 0))), ((u3 13), .inr (2, [.ref (u3 14), .int 0, .int 0])), ((u3 14), .inl (k 0, 3, .inl (fun _ => 0))), (q5, .inr (3, [.ref (u6 0), .ref (u6 1), .ref (u6 3), .ref (u6 5), .ref (u6 7), .ref (u6 9), .int 0, .int 0])), ((u6 0), .inl (k 4, 4, .inr (.inr (.inr (.inr (va_up (va_up (va_up (va_up (fun _ => none) 0 (some (u6 11))) 1 (some (u6 13))) 2 (some (u6 15))) 3 (some (u6 17)))))))), ((u6 1), .inr (2, [.ref (u6 2), .int 0, .int 0])), ((u6 2), .inl (k 0, 3, .inl (fun _ => 0))), ((u6 3), .inr (2, [.ref (u6 4), .int 0, .int 0])), ((u6 4), .inl (k 0, 3, .inl (fun _ => 0))), ((u6 5), .inr (2, [.ref (u6 6), .int 0, .int 0])), ((u6 6), .inl (k 0, 3, .inl (fun _ => 0))), ((u6 7), .inr (2, [.ref (u6 8), .int 0, .int 0])), ((u6 8), .inl (k 0, 3, .inl (fun _ => 0))), ((u6 9), .inr (2, [.ref (u6 10), .int 0, .int 0])), ((u6 10), .inl (k 0, 3, .inl (fun _ => 0))), ((u6 11), .inr (2, [.ref (u6 12), .int 0, .int 0])), ((u6 12), .inl (k 0, 3, .inl (fun _ => 0))), ((u6 13), .inr (2, [.ref (u6 14), .int 0, .int 0])), ((u6 14), .inl (k 0, 3, .inl (fun _ => 0))), ((u6 15), .inr (2, [.ref (u6 16), .int 0, .int 0])), ((u6 16), .inl (k 0, 3, .inl (fun _ => 0))), ((u6 17), .inr (2, [.ref (u6 18), .int 0, .int 0])), ((u6 18), .inl (k 0, 3, .inl (fun _ => 0))), (q8, .inr (4, [.ref (u9 0), .ref (u9 1), .ref (u9 2), .ref (u9 3), .ref (u9 4), .ref (u9 5), .int 0, .int 0, .int 0])), ((u9 0), .inl (k 0, 200, .inl (fun _ => 0))), ((u9 1), .inl (k 0, 40, .inl (fun _ => 0))), ((u9 2), .inl (k 0, 40, .inl (fun _ => 0))), ((u9 3), .inl (k 0, 40, .inl (fun _ => 0))), ((u9 4), .inl (k 0, 40, .inl (fun _ => 0))), ((u9 5), .inl (k 0, 40, .inl (fun _ => 0))), (q11, .inr (4, [.ref (u12 0), .ref (u12 1), .ref (u12 2), .ref (u12 3), .ref (u12 4), .ref (u12 5), .int 0, .int 0, .int 0])), ((u12 0), .inl (k 0, 200, .inl (fun _ => 0))), ((u12 1), .inl (k 0, 40, .inl (fun _ => 0))), ((u12 2), .inl (k 0, 40, .inl (fun _ => 0))), ((u12 3), .inl (k 0, 40, .inl (fun _ => 0))), ((u12 4), .inl (k 0, 40, .inl (fun _ => 0))), ((u12 5), .inl (k 0, 40, .inl (fun _ => 0))), (q14, .inr (4, [.ref (u15 0), .ref (u15 1), .ref (u15 2), .ref (u15 3), .ref (u15 4), .ref (u15 5), .int 0, .int 0, .int 0])), ((u15 0), .inl (k 0, 200, .inl (fun _ => 0))), ((u15 1), .inl (k 0, 40, .inl (fun _ => 0))), ((u15 2), .inl (k 0, 40, .inl (fun _ => 0))), ((u15 3), .inl (k 0, 40, .inl (fun _ => 0))), ((u15 4), .inl (k 0, 40, .inl (fun _ => 0))), ((u15 5), .inl (k 0, 40, .inl (fun _ => 0))), (q17, .inr (4, [.ref (u18 0), .ref (u18 1), .ref (u18 2), .ref (u18 3), .ref (u18 4), .ref (u18 5), .int 0, .int 0, .int 0])), ((u18 0), .inl (k 0, 200, .inl (fun _ => 0))), ((u18 1), .inl (k 0, 40, .inl (fun _ => 0))), ((u18 2), .inl (k 0, 40, .inl (fun _ => 0))), ((u18 3), .inl (k 0, 40, .inl (fun _ => 0))), ((u18 4), .inl (k 0, 40, .inl (fun _ => 0))), ((u18 5), .inl (k 0, 40, .inl (fun _ => 0))), (q20, .inr (5, [.ref q1, .ref q8, .int 0, .int 0, .int (-2)])), (q23, .inr (6, [.ref q1, .ref (u24 0), .ref (u24 1), .ref (u24 2), .ref (u24 3), .int 0, .int 0, .int 0, .int 0, .int 0, .long 0, .int (-2)])), ((u24 0), .inl (k 0, 60, .inl (fun _ => 0))), ((u24 1), .inl (k 0, 1080, .inl (fun _ => 0))), ((u24 2), .inl (k 0, 960, .inl (fun _ => 0))), ((u24 3), .inl (k 0, 60, .inl (fun _ => 0))), (q26, .inr (7, [.ref q1, .ref (u27 0), .ref (u27 1), .ref (u27 2), .ref (u27 3), .ref (u27 4), .ref (u27 5), .ref (u27 6), .ref q8, .int 0, .int 0, .int 0])), ((u27 0), .inl (k 0, 4, .inl (fun _ => 0))), ((u27 1), .inl (k 5, 90, .inr (.inr (.inr (.inr (fun j => some ((u27 1) + 1 + j))))))), ((u27 2), .inl (k 0, 41, .inl (fun _ => 0))), ((u27 3), .inl (k 0, 41, .inl (fun _ => 0))), ((u27 4), .inl (k 5, 306, .inr (.inr (.inr (.inr (fun j => some ((u27 4) + 1 + j))))))), ((u27 5), .inl (k 5, 17, .inr (.inr (.inr (.inr (fun j => some ((u27 5) + 1 + j))))))), ((u27 6), .inl (k 5, 17, .inr (.inr (.inr (.inr (fun j => some ((u27 6) + 1 + j))))))), (q1, .inl (k 3, 4, .inr (.inr (.inr (.inr (va_up (va_up (va_up (va_up (fun _ => none) 0 (some q8)) 1 (some q11)) 2 (some q14)) 3 (some q17)))))))]) rfl rfl d_PB_init_108 (fun H locs S => ?_)
  exact r_vret C K (ul [q1, q8, (u9 0), (u9 1), (u9 2), (u9 3), (u9 4), (u9 5), q11, (u12 0), (u12 1), (u12 2), (u12 3), (u12 4), (u12 5), q14, (u15 0), (u15 1), (u15 2), (u15 3), (u15 4), (u15 5), q17, (u18 0), (u18 1), (u18 2), (u18 3), (u18 4), (u18 5), q20, q23, (u24 0), (u24 1), (u24 2), (u24 3), q26, (u27 0), (u27 1), (u27 2), (u27 3), (u27 4), (u27 5), (u27 6), q2, (u3 0), (u3 1), (u3 2), (u3 3), (u3 4), (u3 5), (u3 6), (u3 7), (u3 8), (u3 9), (u3 10), (u3 11), (u3 12), (u3 13), (u3 14), q5, (u6 0), (u6 1), (u6 2), (u6 3), (u6 4), (u6 5), (u6 6), (u6 7), (u6 8), (u6 9), (u6 10), (u6 11), (u6 12), (u6 13), (u6 14), (u6 15), (u6 16), (u6 17), (u6 18)]) trivial (S.sub [0, 79, 37, 38, 39, 40, 41, 42, 43, 44, 45, 46, 47, 48, 49, 50, 51, 52, 53, 54, 55, 56, 57, 58, 59, 60, 61, 62, 63, 64, 65, 66, 67, 68, 69, 70, 71, 72, 73, 74, 75, 76, 77, 78, 1, 2, 3, 4, 5, 6, 7, 8, 9, 10, 11, 12, 13, 14, 15, 16, 17, 18, 19, 20, 21, 22, 23, 24, 25, 26, 27, 28, 29, 30, 31, 32, 33, 34, 35, 36] (by decide) rfl) d_PB_init_111 (Nat.le_of_ble_eq_true rfl) (Nat.le_of_ble_eq_true rfl)
end
section
theorem d_Mo_init_0 : decode c_Mo_init 0 = .ok (.aload_n 0, 1) := by decide +kernel
theorem d_Mo_init_1 : decode c_Mo_init 1 = .ok (.invokespecial 3, 3) := by decide +kernel
theorem d_Mo_init_4 : decode c_Mo_init 4 = .ok (.aload_n 0, 1) := by decide +kernel
theorem d_Mo_init_5 : decode c_Mo_init 5 = .ok (.iconst 4, 1) := by decide +kernel
theorem d_Mo_init_6 : decode c_Mo_init 6 = .ok (.newarray .int, 2) := by decide +kernel
theorem d_Mo_init_8 : decode c_Mo_init 8 = .ok (.putfield 9, 3) := by decide +kernel
theorem d_Mo_init_11 : decode c_Mo_init 11 = .ok (.aload_n 0, 1) := by decide +kernel
theorem d_Mo_init_12 : decode c_Mo_init 12 = .ok (.sipush 800, 3) := by decide +kernel
theorem d_Mo_init_15 : decode c_Mo_init 15 = .ok (.newarray .int, 2) := by decide +kernel
theorem d_Mo_init_17 : decode c_Mo_init 17 = .ok (.putfield 13, 3) := by decide +kernel
theorem d_Mo_init_20 : decode c_Mo_init 20 = .ok (.aload_n 0, 1) := by decide +kernel
theorem d_Mo_init_21 : decode c_Mo_init 21 = .ok (.iconst 4, 1) := by decide +kernel
theorem d_Mo_init_22 : decode c_Mo_init 22 = .ok (.newarray .int, 2) := by decide +kernel
theorem d_Mo_init_24 : decode c_Mo_init 24 = .ok (.putfield 16, 3) := by decide +kernel
theorem d_Mo_init_27 : decode c_Mo_init 27 = .ok (.aload_n 0, 1) := by decide +kernel
theorem d_Mo_init_28 : decode c_Mo_init 28 = .ok (.bipush (-2), 2) := by decide +kernel
theorem d_Mo_init_30 : decode c_Mo_init 30 = .ok (.putfield 19, 3) := by decide +kernel
theorem d_Mo_init_33 : decode c_Mo_init 33 = .ok (.aload_n 0, 1) := by decide +kernel
theorem d_Mo_init_34 : decode c_Mo_init 34 = .ok (.sipush 800, 3) := by decide +kernel
theorem d_Mo_init_37 : decode c_Mo_init 37 = .ok (.newarray .int, 2) := by decide +kernel
theorem d_Mo_init_39 : decode c_Mo_init 39 = .ok (.putfield 23, 3) := by decide +kernel
theorem d_Mo_init_42 : decode c_Mo_init 42 = .ok (.aload_n 0, 1) := by decide +kernel
theorem d_Mo_init_43 : decode c_Mo_init 43 = .ok (.bipush 20, 2) := by decide +kernel
theorem d_Mo_init_45 : decode c_Mo_init 45 = .ok (.newarray .int, 2) := by decide +kernel
theorem d_Mo_init_47 : decode c_Mo_init 47 = .ok (.putfield 26, 3) := by decide +kernel
theorem d_Mo_init_50 : decode c_Mo_init 50 = .ok (.aload_n 0, 1) := by decide +kernel
theorem d_Mo_init_51 : decode c_Mo_init 51 = .ok (.bipush 20, 2) := by decide +kernel
theorem d_Mo_init_53 : decode c_Mo_init 53 = .ok (.newarray .int, 2) := by decide +kernel
theorem d_Mo_init_55 : decode c_Mo_init 55 = .ok (.putfield 29, 3) := by decide +kernel
theorem d_Mo_init_58 : decode c_Mo_init 58 = .ok (.aload_n 0, 1) := by decide +kernel
theorem d_Mo_init_59 : decode c_Mo_init 59 = .ok (.bipush 20, 2) := by decide +kernel
theorem d_Mo_init_61 : decode c_Mo_init 61 = .ok (.newarray .int, 2) := by decide +kernel
theorem d_Mo_init_63 : decode c_Mo_init 63 = .ok (.putfield 32, 3) := by decide +kernel
theorem d_Mo_init_66 : decode c_Mo_init 66 = .ok (.aload_n 0, 1) := by decide +kernel
theorem d_Mo_init_67 : decode c_Mo_init 67 = .ok (.bipush (-2), 2) := by decide +kernel
theorem d_Mo_init_69 : decode c_Mo_init 69 = .ok (.putfield 35, 3) := by decide +kernel
theorem d_Mo_init_72 : decode c_Mo_init 72 = .ok (.aload_n 0, 1) := by decide +kernel
theorem d_Mo_init_73 : decode c_Mo_init 73 = .ok (.sipush 1200, 3) := by decide +kernel
theorem d_Mo_init_76 : decode c_Mo_init 76 = .ok (.newarray .int, 2) := by decide +kernel
theorem d_Mo_init_78 : decode c_Mo_init 78 = .ok (.putfield 38, 3) := by decide +kernel
theorem d_Mo_init_81 : decode c_Mo_init 81 = .ok (.aload_n 0, 1) := by decide +kernel
theorem d_Mo_init_82 : decode c_Mo_init 82 = .ok (.sipush 1200, 3) := by decide +kernel
theorem d_Mo_init_85 : decode c_Mo_init 85 = .ok (.newarray .int, 2) := by decide +kernel
theorem d_Mo_init_87 : decode c_Mo_init 87 = .ok (.putfield 41, 3) := by decide +kernel
theorem d_Mo_init_90 : decode c_Mo_init 90 = .ok (.aload_n 0, 1) := by decide +kernel
theorem d_Mo_init_91 : decode c_Mo_init 91 = .ok (.sipush 1200, 3) := by decide +kernel
theorem d_Mo_init_94 : decode c_Mo_init 94 = .ok (.newarray .int, 2) := by decide +kernel
theorem d_Mo_init_96 : decode c_Mo_init 96 = .ok (.putfield 44, 3) := by decide +kernel
theorem d_Mo_init_99 : decode c_Mo_init 99 = .ok (.aload_n 0, 1) := by decide +kernel
theorem d_Mo_init_100 : decode c_Mo_init 100 = .ok (.sipush 1200, 3) := by decide +kernel
theorem d_Mo_init_103 : decode c_Mo_init 103 = .ok (.newarray .int, 2) := by decide +kernel
theorem d_Mo_init_105 : decode c_Mo_init 105 = .ok (.putfield 47, 3) := by decide +kernel
theorem d_Mo_init_108 : decode c_Mo_init 108 = .ok (.aload_n 0, 1) := by decide +kernel
theorem d_Mo_init_109 : decode c_Mo_init 109 = .ok (.sipush 1200, 3) := by decide +kernel
theorem d_Mo_init_112 : decode c_Mo_init 112 = .ok (.newarray .int, 2) := by decide +kernel
theorem d_Mo_init_114 : decode c_Mo_init 114 = .ok (.putfield 50, 3) := by decide +kernel
theorem d_Mo_init_117 : decode c_Mo_init 117 = .ok (.aload_n 0, 1) := by decide +kernel
theorem d_Mo_init_118 : decode c_Mo_init 118 = .ok (.sipush 1400, 3) := by decide +kernel
theorem d_Mo_init_121 : decode c_Mo_init 121 = .ok (.newarray .int, 2) := by decide +kernel
theorem d_Mo_init_123 : decode c_Mo_init 123 = .ok (.putfield 53, 3) := by decide +kernel
theorem d_Mo_init_126 : decode c_Mo_init 126 = .ok (.aload_n 0, 1) := by decide +kernel
theorem d_Mo_init_127 : decode c_Mo_init 127 = .ok (.ldc 56, 2) := by decide +kernel
theorem d_Mo_init_129 : decode c_Mo_init 129 = .ok (.newarray .long, 2) := by decide +kernel
theorem d_Mo_init_131 : decode c_Mo_init 131 = .ok (.putfield 57, 3) := by decide +kernel
theorem d_Mo_init_134 : decode c_Mo_init 134 = .ok (.aload_n 0, 1) := by decide +kernel
theorem d_Mo_init_135 : decode c_Mo_init 135 = .ok (.iconst 4, 1) := by decide +kernel
theorem d_Mo_init_136 : decode c_Mo_init 136 = .ok (.newarray .int, 2) := by decide +kernel
theorem d_Mo_init_138 : decode c_Mo_init 138 = .ok (.putfield 61, 3) := by decide +kernel
theorem d_Mo_init_141 : decode c_Mo_init 141 = .ok (.aload_n 0, 1) := by decide +kernel
theorem d_Mo_init_142 : decode c_Mo_init 142 = .ok (.sipush 3690, 3) := by decide +kernel
theorem d_Mo_init_145 : decode c_Mo_init 145 = .ok (.newarray .long, 2) := by decide +kernel
theorem d_Mo_init_147 : decode c_Mo_init 147 = .ok (.putfield 64, 3) := by decide +kernel
theorem d_Mo_init_150 : decode c_Mo_init 150 = .ok (.aload_n 0, 1) := by decide +kernel
theorem d_Mo_init_151 : decode c_Mo_init 151 = .ok (.bipush 20, 2) := by decide +kernel
theorem d_Mo_init_153 : decode c_Mo_init 153 = .ok (.newarray .int, 2) := by decide +kernel
theorem d_Mo_init_155 : decode c_Mo_init 155 = .ok (.putfield 67, 3) := by decide +kernel
theorem d_Mo_init_158 : decode c_Mo_init 158 = .ok (.aload_n 0, 1) := by decide +kernel
theorem d_Mo_init_159 : decode c_Mo_init 159 = .ok (.bipush 20, 2) := by decide +kernel
theorem d_Mo_init_161 : decode c_Mo_init 161 = .ok (.newarray .int, 2) := by decide +kernel
theorem d_Mo_init_163 : decode c_Mo_init 163 = .ok (.putfield 70, 3) := by decide +kernel
theorem d_Mo_init_166 : decode c_Mo_init 166 = .ok (.aload_n 0, 1) := by decide +kernel
theorem d_Mo_init_167 : decode c_Mo_init 167 = .ok (.bipush 20, 2) := by decide +kernel
theorem d_Mo_init_169 : decode c_Mo_init 169 = .ok (.newarray .int, 2) := by decide +kernel
theorem d_Mo_init_171 : decode c_Mo_init 171 = .ok (.putfield 73, 3) := by decide +kernel
theorem d_Mo_init_174 : decode c_Mo_init 174 = .ok (.aload_n 0, 1) := by decide +kernel
theorem d_Mo_init_175 : decode c_Mo_init 175 = .ok (.bipush 20, 2) := by decide +kernel
theorem d_Mo_init_177 : decode c_Mo_init 177 = .ok (.newarray .int, 2) := by decide +kernel
theorem d_Mo_init_179 : decode c_Mo_init 179 = .ok (.putfield 76, 3) := by decide +kernel
theorem d_Mo_init_182 : decode c_Mo_init 182 = .ok (.aload_n 0, 1) := by decide +kernel
theorem d_Mo_init_183 : decode c_Mo_init 183 = .ok (.bipush 20, 2) := by decide +kernel
theorem d_Mo_init_185 : decode c_Mo_init 185 = .ok (.newarray .int, 2) := by decide +kernel
theorem d_Mo_init_187 : decode c_Mo_init 187 = .ok (.putfield 79, 3) := by decide +kernel
theorem d_Mo_init_190 : decode c_Mo_init 190 = .ok (.aload_n 0, 1) := by decide +kernel
theorem d_Mo_init_191 : decode c_Mo_init 191 = .ok (.ldc 82, 2) := by decide +kernel
theorem d_Mo_init_193 : decode c_Mo_init 193 = .ok (.newarray .int, 2) := by decide +kernel
theorem d_Mo_init_195 : decode c_Mo_init 195 = .ok (.putfield 83, 3) := by decide +kernel
theorem d_Mo_init_198 : decode c_Mo_init 198 = .ok (.aload_n 0, 1) := by decide +kernel
theorem d_Mo_init_199 : decode c_Mo_init 199 = .ok (.sipush 3998, 3) := by decide +kernel
theorem d_Mo_init_202 : decode c_Mo_init 202 = .ok (.newarray .int, 2) := by decide +kernel
theorem d_Mo_init_204 : decode c_Mo_init 204 = .ok (.putfield 86, 3) := by decide +kernel
theorem d_Mo_init_207 : decode c_Mo_init 207 = .ok (.aload_n 0, 1) := by decide +kernel
theorem d_Mo_init_208 : decode c_Mo_init 208 = .ok (.sipush 3998, 3) := by decide +kernel
theorem d_Mo_init_211 : decode c_Mo_init 211 = .ok (.newarray .boolean, 2) := by decide +kernel
theorem d_Mo_init_213 : decode c_Mo_init 213 = .ok (.putfield 89, 3) := by decide +kernel
theorem d_Mo_init_216 : decode c_Mo_init 216 = .ok (.aload_n 0, 1) := by decide +kernel
theorem d_Mo_init_217 : decode c_Mo_init 217 = .ok (.sipush 170, 3) := by decide +kernel
theorem d_Mo_init_220 : decode c_Mo_init 220 = .ok (.newarray .int, 2) := by decide +kernel
theorem d_Mo_init_222 : decode c_Mo_init 222 = .ok (.putfield 93, 3) := by decide +kernel
theorem d_Mo_init_225 : decode c_Mo_init 225 = .ok (.aload_n 0, 1) := by decide +kernel
theorem d_Mo_init_226 : decode c_Mo_init 226 = .ok (.sipush 170, 3) := by decide +kernel
theorem d_Mo_init_229 : decode c_Mo_init 229 = .ok (.newarray .int, 2) := by decide +kernel
theorem d_Mo_init_231 : decode c_Mo_init 231 = .ok (.putfield 96, 3) := by decide +kernel
theorem d_Mo_init_234 : decode c_Mo_init 234 = .ok (.aload_n 0, 1) := by decide +kernel
theorem d_Mo_init_235 : decode c_Mo_init 235 = .ok (.sipush 170, 3) := by decide +kernel
theorem d_Mo_init_238 : decode c_Mo_init 238 = .ok (.newarray .int, 2) := by decide +kernel
theorem d_Mo_init_240 : decode c_Mo_init 240 = .ok (.putfield 99, 3) := by decide +kernel
theorem d_Mo_init_243 : decode c_Mo_init 243 = .ok (.aload_n 0, 1) := by decide +kernel
theorem d_Mo_init_244 : decode c_Mo_init 244 = .ok (.sipush 170, 3) := by decide +kernel
theorem d_Mo_init_247 : decode c_Mo_init 247 = .ok (.newarray .int, 2) := by decide +kernel
theorem d_Mo_init_249 : decode c_Mo_init 249 = .ok (.putfield 102, 3) := by decide +kernel
theorem d_Mo_init_252 : decode c_Mo_init 252 = .ok (.aload_n 0, 1) := by decide +kernel
theorem d_Mo_init_253 : decode c_Mo_init 253 = .ok (.bipush 90, 2) := by decide +kernel
theorem d_Mo_init_255 : decode c_Mo_init 255 = .ok (.newarray .int, 2) := by decide +kernel
theorem d_Mo_init_257 : decode c_Mo_init 257 = .ok (.putfield 105, 3) := by decide +kernel
theorem d_Mo_init_260 : decode c_Mo_init 260 = .ok (.aload_n 0, 1) := by decide +kernel
theorem d_Mo_init_261 : decode c_Mo_init 261 = .ok (.bipush 41, 2) := by decide +kernel
theorem d_Mo_init_263 : decode c_Mo_init 263 = .ok (.newarray .int, 2) := by decide +kernel
theorem d_Mo_init_265 : decode c_Mo_init 265 = .ok (.putfield 108, 3) := by decide +kernel
theorem d_Mo_init_268 : decode c_Mo_init 268 = .ok (.return_, 1) := by decide +kernel
set_option maxRecDepth 100000 in
set_option maxHeartbeats 4000000 in
/-- PotentialBenchModel(): all that it is made of -/
theorem k_Mo_init (l : Launch) (G : va_G) (k : Nat → ClassId) (h0 sz : Nat) : CV l y_Mo_init c_Mo_init 1 { frames := 1, cells := 30, slots := 378491, locals := 20 } [.ref h0] G k sz [(h0, .inr (8, [.int 0, .null, .null, .null, .int 0, .null, .null, .null, .null, .int 0, .long 0, .int 0, .int 0, .null, .null, .null, .null, .null, .int 0, .null, .int 0, .int 0, .int 0, .int 0, .int 0, .int 0, .int 0, .null, .int 0, .int 0, .int 0, .int 0, .null, .null, .int 0, .null, .null, .null, .null, .null, .int 0, .null, .null, .null, .null, .null, .null, .null, .int 0, .int 0, .int 0, .int 0, .int 0, .int 0, .int 0, .null, .null, .int 0, .int 0, .int 0, .int 0]))] (fun _ : Nat → Nat => True) (fun u => [(h0, .inr (8, [.int 0, .ref (u 0), .ref (u 1), .ref (u 2), .int (-2), .ref (u 3), .ref (u 4), .ref (u 5), .ref (u 6), .int 0, .long 0, .int (-2), .int 0, .ref (u 7), .ref (u 8), .ref (u 9), .ref (u 10), .ref (u 11), .int 0, .ref (u 12), .int 0, .int 0, .int 0, .int 0, .int 0, .int 0, .int 0, .ref (u 13), .int 0, .int 0, .int 0, .int 0, .ref (u 14), .ref (u 15), .int 0, .ref (u 16), .ref (u 17), .ref (u 18), .ref (u 19), .ref (u 20), .int 0, .ref (u 21), .ref (u 22), .ref (u 23), .ref (u 24), .ref (u 25), .ref (u 26), .ref (u 27), .int 0, .int 0, .int 0, .int 0, .int 0, .int 0, .int 0, .ref (u 28), .ref (u 29), .int 0, .int 0, .int 0, .int 0])), ((u 0), .inl (k 0, 4, .inl (fun _ => 0))), ((u 1), .inl (k 0, 800, .inl (fun _ => 0))), ((u 2), .inl (k 0, 4, .inl (fun _ => 0))), ((u 3), .inl (k 0, 800, .inl (fun _ => 0))), ((u 4), .inl (k 0, 20, .inl (fun _ => 0))), ((u 5), .inl (k 0, 20, .inl (fun _ => 0))), ((u 6), .inl (k 0, 20, .inl (fun _ => 0))), ((u 7), .inl (k 0, 1200, .inl (fun _ => 0))), ((u 8), .inl (k 0, 1200, .inl (fun _ => 0))), ((u 9), .inl (k 0, 1200, .inl (fun _ => 0))), ((u 10), .inl (k 0, 1200, .inl (fun _ => 0))), ((u 11), .inl (k 0, 1200, .inl (fun _ => 0))), ((u 12), .inl (k 0, 1400, .inl (fun _ => 0))), ((u 13), .inl (k 1, 36982, .inr (.inl (fun _ => 0)))), ((u 14), .inl (k 0, 4, .inl (fun _ => 0))), ((u 15), .inl (k 1, 3690, .inr (.inl (fun _ => 0)))), ((u 16), .inl (k 0, 20, .inl (fun _ => 0))), ((u 17), .inl (k 0, 20, .inl (fun _ => 0))), ((u 18), .inl (k 0, 20, .inl (fun _ => 0))), ((u 19), .inl (k 0, 20, .inl (fun _ => 0))), ((u 20), .inl (k 0, 20, .inl (fun _ => 0))), ((u 21), .inl (k 0, 319840, .inl (fun _ => 0))), ((u 22), .inl (k 0, 3998, .inl (fun _ => 0))), ((u 23), .inl (k 2, 3998, .inl (fun _ => 0))), ((u 24), .inl (k 0, 170, .inl (fun _ => 0))), ((u 25), .inl (k 0, 170, .inl (fun _ => 0))), ((u 26), .inl (k 0, 170, .inl (fun _ => 0))), ((u 27), .inl (k 0, 170, .inl (fun _ => 0))), ((u 28), .inl (k 0, 90, .inl (fun _ => 0))), ((u 29), .inl (k 0, 41, .inl (fun _ => 0)))]) 30 378491 := by
  refine met_start (by decide) (Nat.le_of_ble_eq_true rfl) ?_
  intro p e s m below meth c C K hA hsz S ls hl
  generalize va_A [(h0, .inr (8, [.int 0, .null, .null, .null, .int 0, .null, .null, .null, .null, .int 0, .long 0, .int 0, .int 0, .null, .null, .null, .null, .null, .int 0, .null, .int 0, .int 0, .int 0, .int 0, .int 0, .int 0, .int 0, .null, .int 0, .int 0, .int 0, .int 0, .null, .null, .int 0, .null, .null, .null, .null, .null, .int 0, .null, .null, .null, .null, .null, .null, .null, .int 0, .int 0, .int 0, .int 0, .int 0, .int 0, .int 0, .null, .null, .int 0, .int 0, .int 0, .int 0]))] sz = A at hA S ⊢
  have hx := C.1
  have hb := C.2.1
  have hl : lv_has ls 1 [(0, .ref h0)] := hl
  refine lv_aload_n hx hb d_Mo_init_0 rfl (lv_at hl 0 rfl) ?_
  refine r_objInit C wm_Mo_3 hl.1 d_Mo_init_1 (Nat.le_of_ble_eq_true rfl) (Nat.le_of_ble_eq_true rfl) ?_
  refine lv_aload_n hx hb d_Mo_init_4 rfl (lv_at hl 0 rfl) ?_
  refine lv_iconst (v := 4) hx hb d_Mo_init_5 (by decide) ?_
  refine r_newI C K S hA 4 (by decide) (by decide) (by decide) (Nat.le_of_ble_eq_true rfl) (Nat.le_of_ble_eq_true rfl) d_Mo_init_6 (fun q1 H S => ?_)
  have S : Sw G A s.heap _ _ [(h0, .inr (8, [.int 0, .null, .null, .null, .int 0, .null, .null, .null, .null, .int 0, .long 0, .int 0, .int 0, .null, .null, .null, .null, .null, .int 0, .null, .int 0, .int 0, .int 0, .int 0, .int 0, .int 0, .int 0, .null, .int 0, .int 0, .int 0, .int 0, .null, .null, .int 0, .null, .null, .null, .null, .null, .int 0, .null, .null, .null, .null, .null, .null, .null, .int 0, .int 0, .int 0, .int 0, .int 0, .int 0, .int 0, .null, .null, .int 0, .int 0, .int 0, .int 0])), (q1, .inl (k 0, 4, .inl (fun _ => 0)))] := S
  refine r_putF C K S 0 rfl rfl clOk_Mo 1 (by decide) wf_Mo_9 rfl rfl (ty := .array .int) (v := .ref q1) (by decide +kernel) rfl rfl (Nat.le_of_ble_eq_true rfl) (fs' := [.int 0, .ref q1, .null, .null, .int 0, .null, .null, .null, .null, .int 0, .long 0, .int 0, .int 0, .null, .null, .null, .null, .null, .int 0, .null, .int 0, .int 0, .int 0, .int 0, .int 0, .int 0, .int 0, .null, .int 0, .int 0, .int 0, .int 0, .null, .null, .int 0, .null, .null, .null, .null, .null, .int 0, .null, .null, .null, .null, .null, .null, .null, .int 0, .int 0, .int 0, .int 0, .int 0, .int 0, .int 0, .null, .null, .int 0, .int 0, .int 0, .int 0]) (ws' := [(h0, .inr (8, [.int 0, .ref q1, .null, .null, .int 0, .null, .null, .null, .null, .int 0, .long 0, .int 0, .int 0, .null, .null, .null, .null, .null, .int 0, .null, .int 0, .int 0, .int 0, .int 0, .int 0, .int 0, .int 0, .null, .int 0, .int 0, .int 0, .int 0, .null, .null, .int 0, .null, .null, .null, .null, .null, .int 0, .null, .null, .null, .null, .null, .null, .null, .int 0, .int 0, .int 0, .int 0, .int 0, .int 0, .int 0, .null, .null, .int 0, .int 0, .int 0, .int 0])), (q1, .inl (k 0, 4, .inl (fun _ => 0)))]) rfl rfl d_Mo_init_8 (fun H locs S => ?_)
  refine lv_aload_n hx hb d_Mo_init_11 rfl (lv_at hl 0 rfl) ?_
  refine lv_sipush (v := 800) hx hb d_Mo_init_12 (by decide) ?_
  refine r_newI C K S hA 800 (by decide) (by decide) (by decide) (Nat.le_of_ble_eq_true rfl) (Nat.le_of_ble_eq_true rfl) d_Mo_init_15 (fun q2 H S => ?_)
  have S : Sw G A s.heap _ _ [(h0, .inr (8, [.int 0, .ref q1, .null, .null, .int 0, .null, .null, .null, .null, .int 0, .long 0, .int 0, .int 0, .null, .null, .null, .null, .null, .int 0, .null, .int 0, .int 0, .int 0, .int 0, .int 0, .int 0, .int 0, .null, .int 0, .int 0, .int 0, .int 0, .null, .null, .int 0, .null, .null, .null, .null, .null, .int 0, .null, .null, .null, .null, .null, .null, .null, .int 0, .int 0, .int 0, .int 0, .int 0, .int 0, .int 0, .null, .null, .int 0, .int 0, .int 0, .int 0])), (q1, .inl (k 0, 4, .inl (fun _ => 0))), (q2, .inl (k 0, 800, .inl (fun _ => 0)))] := S
  refine r_putF C K S 0 rfl rfl clOk_Mo 2 (by decide) wf_Mo_13 rfl rfl (ty := .array .int) (v := .ref q2) (by decide +kernel) rfl rfl (Nat.le_of_ble_eq_true rfl) (fs' := [.int 0, .ref q1, .ref q2, .null, .int 0, .null, .null, .null, .null, .int 0, .long 0, .int 0, .int 0, .null, .null, .null, .null, .null, .int 0, .null, .int 0, .int 0, .int 0, .int 0, .int 0, .int 0, .int 0, .null, .int 0, .int 0, .int 0, .int 0, .null, .null, .int 0, .null, .null, .null, .null, .null, .int 0, .null, .null, .null, .null, .null, .null, .null, .int 0, .int 0, .int 0, .int 0, .int 0, .int 0, .int 0, .null, .null, .int 0, .int 0, .int 0, .int 0]) (ws' := [(h0, .inr (8, [.int 0, .ref q1, .ref q2, .null, .int 0, .null, .null, .null, .null, .int 0, .long 0, .int 0, .int 0, .null, .null, .null, .null, .null, .int 0, .null, .int 0, .int 0, .int 0, .int 0, .int 0, .int 0, .int 0, .null, .int 0, .int 0, .int 0, .int 0, .null, .null, .int 0, .null, .null, .null, .null, .null, .int 0, .null, .null, .null, .null, .null, .null, .null, .int 0, .int 0, .int 0, .int 0, .int 0, .int 0, .int 0, .null, .null, .int 0, .int 0, .int 0, .int 0])), (q1, .inl (k 0, 4, .inl (fun _ => 0))), (q2, .inl (k 0, 800, .inl (fun _ => 0)))]) rfl rfl d_Mo_init_17 (fun H locs S => ?_)
  refine lv_aload_n hx hb d_Mo_init_20 rfl (lv_at hl 0 rfl) ?_
  refine lv_iconst (v := 4) hx hb d_Mo_init_21 (by decide) ?_
  refine r_newI C K S hA 4 (by decide) (by decide) (by decide) (Nat.le_of_ble_eq_true rfl) (Nat.le_of_ble_eq_true rfl) d_Mo_init_22 (fun q3 H S => ?_)
  have S : Sw G A s.heap _ _ [(h0, .inr (8, [.int 0, .ref q1, .ref q2, .null, .int 0, .null, .null, .null, .null, .int 0, .long 0, .int 0, .int 0, .null, .null, .null, .null, .null, .int 0, .null, .int 0, .int 0, .int 0, .int 0, .int 0, .int 0, .int 0, .null, .int 0, .int 0, .int 0, .int 0, .null, .null, .int 0, .null, .null, .null, .null, .null, .int 0, .null, .null, .null, .null, .null, .null, .null, .int 0, .int 0, .int 0, .int 0, .int 0, .int 0, .int 0, .null, .null, .int 0, .int 0, .int 0, .int 0])), (q1, .inl (k 0, 4, .inl (fun _ => 0))), (q2, .inl (k 0, 800, .inl (fun _ => 0))), (q3, .inl (k 0, 4, .inl (fun _ => 0)))] := S
  refine r_putF C K S 0 rfl rfl clOk_Mo 3 (by decide) wf_Mo_16 rfl rfl (ty := .array .int) (v := .ref q3) (by decide +kernel) rfl rfl (Nat.le_of_ble_eq_true rfl) (fs' := [.int 0, .ref q1, .ref q2, .ref q3, .int 0, .null, .null, .null, .null, .int 0, .long 0, .int 0, .int 0, .null, .null, .null, .null, .null, .int 0, .null, .int 0, .int 0, .int 0, .int 0, .int 0, .int 0, .int 0, .null, .int 0, .int 0, .int 0, .int 0, .null, .null, .int 0, .null, .null, .null, .null, .null, .int 0, .null, .null, .null, .null, .null, .null, .null, .int 0, .int 0, .int 0, .int 0, .int 0, .int 0, .int 0, .null, .null, .int 0, .int 0, .int 0, .int 0]) (ws' := [(h0, .inr (8, [.int 0, .ref q1, .ref q2, .ref q3, .int 0, .null, .null, .null, .null, .int 0, .long 0, .int 0, .int 0, .null, .null, .null, .null, .null, .int 0, .null, .int 0, .int 0, .int 0, .int 0, .int 0, .int 0, .int 0, .null, .int 0, .int 0, .int 0, .int 0, .null, .null, .int 0, .null, .null, .null, .null, .null, .int 0, .null, .null, .null, .null, .null, .null, .null, .int 0, .int 0, .int 0, .int 0, .int 0, .int 0, .int 0, .null, .null, .int 0, .int 0, .int 0, .int 0])), (q1, .inl (k 0, 4, .inl (fun _ => 0))), (q2, .inl (k 0, 800, .inl (fun _ => 0))), (q3, .inl (k 0, 4, .inl (fun _ => 0)))]) rfl rfl d_Mo_init_24 (fun H locs S => ?_)
  refine lv_aload_n hx hb d_Mo_init_27 rfl (lv_at hl 0 rfl) ?_
  refine lv_bipush (v := (-2)) hx hb d_Mo_init_28 (by decide) ?_
  refine r_put C K S 0 rfl rfl clOk_Mo 4 (by decide) wf_Mo_19 rfl (ty := .int) (v := .int (-2)) (by decide +kernel) rfl rfl (Nat.le_of_ble_eq_true rfl) (fs' := [.int 0, .ref q1, .ref q2, .ref q3, .int (-2), .null, .null, .null, .null, .int 0, .long 0, .int 0, .int 0, .null, .null, .null, .null, .null, .int 0, .null, .int 0, .int 0, .int 0, .int 0, .int 0, .int 0, .int 0, .null, .int 0, .int 0, .int 0, .int 0, .null, .null, .int 0, .null, .null, .null, .null, .null, .int 0, .null, .null, .null, .null, .null, .null, .null, .int 0, .int 0, .int 0, .int 0, .int 0, .int 0, .int 0, .null, .null, .int 0, .int 0, .int 0, .int 0]) (ws' := [(h0, .inr (8, [.int 0, .ref q1, .ref q2, .ref q3, .int (-2), .null, .null, .null, .null, .int 0, .long 0, .int 0, .int 0, .null, .null, .null, .null, .null, .int 0, .null, .int 0, .int 0, .int 0, .int 0, .int 0, .int 0, .int 0, .null, .int 0, .int 0, .int 0, .int 0, .null, .null, .int 0, .null, .null, .null, .null, .null, .int 0, .null, .null, .null, .null, .null, .null, .null, .int 0, .int 0, .int 0, .int 0, .int 0, .int 0, .int 0, .null, .null, .int 0, .int 0, .int 0, .int 0])), (q1, .inl (k 0, 4, .inl (fun _ => 0))), (q2, .inl (k 0, 800, .inl (fun _ => 0))), (q3, .inl (k 0, 4, .inl (fun _ => 0)))]) rfl rfl d_Mo_init_30 (fun H locs S => ?_)
  refine lv_aload_n hx hb d_Mo_init_33 rfl (lv_at hl 0 rfl) ?_
  refine lv_sipush (v := 800) hx hb d_Mo_init_34 (by decide) ?_
  refine r_newI C K S hA 800 (by decide) (by decide) (by decide) (Nat.le_of_ble_eq_true rfl) (Nat.le_of_ble_eq_true rfl) d_Mo_init_37 (fun q4 H S => ?_)
  have S : Sw G A s.heap _ _ [(h0, .inr (8, [.int 0, .ref q1, .ref q2, .ref q3, .int (-2), .null, .null, .null, .null, .int 0, .long 0, .int 0, .int 0, .null, .null, .null, .null, .null, .int 0, .null, .int 0, .int 0, .int 0, .int 0, .int 0, .int 0, .int 0, .null, .int 0, .int 0, .int 0, .int 0, .null, .null, .int 0, .null, .null, .null, .null, .null, .int 0, .null, .null, .null, .null, .null, .null, .null, .int 0, .int 0, .int 0, .int 0, .int 0, .int 0, .int 0, .null, .null, .int 0, .int 0, .int 0, .int 0])), (q1, .inl (k 0, 4, .inl (fun _ => 0))), (q2, .inl (k 0, 800, .inl (fun _ => 0))), (q3, .inl (k 0, 4, .inl (fun _ => 0))), (q4, .inl (k 0, 800, .inl (fun _ => 0)))] := S
  refine r_putF C K S 0 rfl rfl clOk_Mo 5 (by decide) wf_Mo_23 rfl rfl (ty := .array .int) (v := .ref q4) (by decide +kernel) rfl rfl (Nat.le_of_ble_eq_true rfl) (fs' := [.int 0, .ref q1, .ref q2, .ref q3, .int (-2), .ref q4, .null, .null, .null, .int 0, .long 0, .int 0, .int 0, .null, .null, .null, .null, .null, .int 0, .null, .int 0, .int 0, .int 0, .int 0, .int 0, .int 0, .int 0, .null, .int 0, .int 0, .int 0, .int 0, .null, .null, .int 0, .null, .null, .null, .null, .null, .int 0, .null, .null, .null, .null, .null, .null, .null, .int 0, .int 0, .int 0, .int 0, .int 0, .int 0, .int 0, .null, .null, .int 0, .int 0, .int 0, .int 0]) (ws' := [(h0, .inr (8, [.int 0, .ref q1, .ref q2, .ref q3, .int (-2), .ref q4, .null, .null, .null, .int 0, .long 0, .int 0, .int 0, .null, .null, .null, .null, .null, .int 0, .null, .int 0, .int 0, .int 0, .int 0, .int 0, .int 0, .int 0, .null, .int 0, .int 0, .int 0, .int 0, .null, .null, .int 0, .null, .null, .null, .null, .null, .int 0, .null, .null, .null, .null, .null, .null, .null, .int 0, .int 0, .int 0, .int 0, .int 0, .int 0, .int 0, .null, .null, .int 0, .int 0, .int 0, .int 0])), (q1, .inl (k 0, 4, .inl (fun _ => 0))), (q2, .inl (k 0, 800, .inl (fun _ => 0))), (q3, .inl (k 0, 4, .inl (fun _ => 0))), (q4, .inl (k 0, 800, .inl (fun _ => 0)))]) rfl rfl d_Mo_init_39 (fun H locs S => ?_)
  refine lv_aload_n hx hb d_Mo_init_42 rfl (lv_at hl 0 rfl) ?_
  refine lv_bipush (v := 20) hx hb d_Mo_init_43 (by decide) ?_
  refine r_newI C K S hA 20 (by decide) (by decide) (by decide) (Nat.le_of_ble_eq_true rfl) (Nat.le_of_ble_eq_true rfl) d_Mo_init_45 (fun q5 H S => ?_)
  have S : Sw G A s.heap _ _ [(h0, .inr (8, [.int 0, .ref q1, .ref q2, .ref q3, .int (-2), .ref q4, .null, .null, .null, .int 0, .long 0, .int 0, .int 0, .null, .null, .null, .null, .null, .int 0, .null, .int 0, .int 0, .int 0, .int 0, .int 0, .int 0, .int 0, .null, .int 0, .int 0, .int 0, .int 0, .null, .null, .int 0, .null, .null, .null, .null, .null, .int 0, .null, .null, .null, .null, .null, .null, .null, .int 0, .int 0, .int 0, .int 0, .int 0, .int 0, .int 0, .null, .null, .int 0, .int 0, .int 0, .int 0])), (q1, .inl (k 0, 4, .inl (fun _ => 0))), (q2, .inl (k 0, 800, .inl (fun _ => 0))), (q3, .inl (k 0, 4, .inl (fun _ => 0))), (q4, .inl (k 0, 800, .inl (fun _ => 0))), (q5, .inl (k 0, 20, .inl (fun _ => 0)))] := S
  refine r_putF C K S 0 rfl rfl clOk_Mo 6 (by decide) wf_Mo_26 rfl rfl (ty := .array .int) (v := .ref q5) (by decide +kernel) rfl rfl (Nat.le_of_ble_eq_true rfl) (fs' := [.int 0, .ref q1, .ref q2, .ref q3, .int (-2), .ref q4, .ref q5, .null, .null, .int 0, .long 0, .int 0, .int 0, .null, .null, .null, .null, .null, .int 0, .null, .int 0, .int 0, .int 0, .int 0, .int 0, .int 0, .int 0, .null, .int 0, .int 0, .int 0, .int 0, .null, .null, .int 0, .null, .null, .null, .null, .null, .int 0, .null, .null, .null, .null, .null, .null, .null, .int 0, .int 0, .int 0, .int 0, .int 0, .int 0, .int 0, .null, .null, .int 0, .int 0, .int 0, .int 0]) (ws' := [(h0, .inr (8, [.int 0, .ref q1, .ref q2, .ref q3, .int (-2), .ref q4, .ref q5, .null, .null, .int 0, .long 0, .int 0, .int 0, .null, .null, .null, .null, .null, .int 0, .null, .int 0, .int 0, .int 0, .int 0, .int 0, .int 0, .int 0, .null, .int 0, .int 0, .int 0, .int 0, .null, .null, .int 0, .null, .null, .null, .null, .null, .int 0, .null, .null, .null, .null, .null, .null, .null, .int 0, .int 0, .int 0, .int 0, .int 0, .int 0, .int 0, .null, .null, .int 0, .int 0, .int 0, .int 0])), (q1, .inl (k 0, 4, .inl (fun _ => 0))), (q2, .inl (k 0, 800, .inl (fun _ => 0))), (q3, .inl (k 0, 4, .inl (fun _ => 0))), (q4, .inl (k 0, 800, .inl (fun _ => 0))), (q5, .inl (k 0, 20, .inl (fun _ => 0)))]) rfl rfl d_Mo_init_47 (fun H locs S => ?_)
  refine lv_aload_n hx hb d_Mo_init_50 rfl (lv_at hl 0 rfl) ?_
  refine lv_bipush (v := 20) hx hb d_Mo_init_51 (by decide) ?_
  refine r_newI C K S hA 20 (by decide) (by decide) (by decide) (Nat.le_of_ble_eq_true rfl) (Nat.le_of_ble_eq_true rfl) d_Mo_init_53 (fun q6 H S => ?_)
  have S : Sw G A s.heap _ _ [(h0, .inr (8, [.int 0, .ref q1, .ref q2, .ref q3, .int (-2), .ref q4, .ref q5, .null, .null, .int 0, .long 0, .int 0, .int 0, .null, .null, .null, .null, .null, .int 0, .null, .int 0, .int 0, .int 0, .int 0, .int 0, .int 0, .int 0, .null, .int 0, .int 0, .int 0, .int 0, .null, .null, .int 0, .null, .null, .null, .null, .null, .int 0, .null, .null, .null, .null, .null, .null, .null, .int 0, .int 0, .int 0, .int 0, .int 0, .int 0, .int 0, .null, .null, .int 0, .int 0, .int 0, .int 0])), (q1, .inl (k 0, 4, .inl (fun _ => 0))), (q2, .inl (k 0, 800, .inl (fun _ => 0))), (q3, .inl (k 0, 4, .inl (fun _ => 0))), (q4, .inl (k 0, 800, .inl (fun _ => 0))), (q5, .inl (k 0, 20, .inl (fun _ => 0))), (q6, .inl (k 0, 20, .inl (fun _ => 0)))] := S
  refine r_putF C K S 0 rfl rfl clOk_Mo 7 (by decide) wf_Mo_29 rfl rfl (ty := .array .int) (v := .ref q6) (by decide +kernel) rfl rfl (Nat.le_of_ble_eq_true rfl) (fs' := [.int 0, .ref q1, .ref q2, .ref q3, .int (-2), .ref q4, .ref q5, .ref q6, .null, .int 0, .long 0, .int 0, .int 0, .null, .null, .null, .null, .null, .int 0, .null, .int 0, .int 0, .int 0, .int 0, .int 0, .int 0, .int 0, .null, .int 0, .int 0, .int 0, .int 0, .null, .null, .int 0, .null, .null, .null, .null, .null, .int 0, .null, .null, .null, .null, .null, .null, .null, .int 0, .int 0, .int 0, .int 0, .int 0, .int 0, .int 0, .null, .null, .int 0, .int 0, .int 0, .int 0]) (ws' := [(h0, .inr (8, [.int 0, .ref q1, .ref q2, .ref q3, .int (-2), .ref q4, .ref q5, .ref q6, .null, .int 0, .long 0, .int 0, .int 0, .null, .null, .null, .null, .null, .int 0, .null, .int 0, .int 0, .int 0, .int 0, .int 0, .int 0, .int 0, .null, .int 0, .int 0, .int 0, .int 0, .null, .null, .int 0, .null, .null, .null, .null, .null, .int 0, .null, .null, .null, .null, .null, .null, .null, .int 0, .int 0, .int 0, .int 0, .int 0, .int 0, .int 0, .null, .null, .int 0, .int 0, .int 0, .int 0])), (q1, .inl (k 0, 4, .inl (fun _ => 0))), (q2, .inl (k 0, 800, .inl (fun _ => 0))), (q3, .inl (k 0, 4, .inl (fun _ => 0))), (q4, .inl (k 0, 800, .inl (fun _ => 0))), (q5, .inl (k 0, 20, .inl (fun _ => 0))), (q6, .inl (k 0, 20, .inl (fun _ => 0)))]) rfl rfl d_Mo_init_55 (fun H locs S => ?_)
  refine lv_aload_n hx hb d_Mo_init_58 rfl (lv_at hl 0 rfl) ?_
  refine lv_bipush (v := 20) hx hb d_Mo_init_59 (by decide) ?_
  refine r_newI C K S hA 20 (by decide) (by decide) (by decide) (Nat.le_of_ble_eq_true rfl) (Nat.le_of_ble_eq_true rfl) d_Mo_init_61 (fun q7 H S => ?_)
  have S : Sw G A s.heap _ _ [(h0, .inr (8, [.int 0, .ref q1, .ref q2, .ref q3, .int (-2), .ref q4, .ref q5, .ref q6, .null, .int 0, .long 0, .int 0, .int 0, .null, .null, .null, .null, .null, .int 0, .null, .int 0, .int 0, .int 0, .int 0, .int 0, .int 0, .int 0, .null, .int 0, .int 0, .int 0, .int 0, .null, .null, .int 0, .null, .null, .null, .null, .null, .int 0, .null, .null, .null, .null, .null, .null, .null, .int 0, .int 0, .int 0, .int 0, .int 0, .int 0, .int 0, .null, .null, .int 0, .int 0, .int 0, .int 0])), (q1, .inl (k 0, 4, .inl (fun _ => 0))), (q2, .inl (k 0, 800, .inl (fun _ => 0))), (q3, .inl (k 0, 4, .inl (fun _ => 0))), (q4, .inl (k 0, 800, .inl (fun _ => 0))), (q5, .inl (k 0, 20, .inl (fun _ => 0))), (q6, .inl (k 0, 20, .inl (fun _ => 0))), (q7, .inl (k 0, 20, .inl (fun _ => 0)))] := S
  refine r_putF C K S 0 rfl rfl clOk_Mo 8 (by decide) wf_Mo_32 rfl rfl (ty := .array .int) (v := .ref q7) (by decide +kernel) rfl rfl (Nat.le_of_ble_eq_true rfl) (fs' := [.int 0, .ref q1, .ref q2, .ref q3, .int (-2), .ref q4, .ref q5, .ref q6, .ref q7, .int 0, .long 0, .int 0, .int 0, .null, .null, .null, .null, .null, .int 0, .null, .int 0, .int 0, .int 0, .int 0, .int 0, .int 0, .int 0, .null, .int 0, .int 0, .int 0, .int 0, .null, .null, .int 0, .null, .null, .null, .null, .null, .int 0, .null, .null, .null, .null, .null, .null, .null, .int 0, .int 0, .int 0, .int 0, .int 0, .int 0, .int 0, .null, .null, .int 0, .int 0, .int 0, .int 0]) (ws' := [(h0, .inr (8, [.int 0, .ref q1, .ref q2, .ref q3, .int (-2), .ref q4, .ref q5, .ref q6, .ref q7, .int 0, .long 0, .int 0, .int 0, .null, .null, .null, .null, .null, .int 0, .null, .int 0, .int 0, .int 0, .int 0, .int 0, .int 0, .int 0, .null, .int 0, .int 0, .int 0, .int 0, .null, .null, .int 0, .null, .null, .null, .null, .null, .int 0, .null, .null, .null, .null, .null, .null, .null, .int 0, .int 0, .int 0, .int 0, .int 0, .int 0, .int 0, .null, .null, .int 0, .int 0, .int 0, .int 0])), (q1, .inl (k 0, 4, .inl (fun _ => 0))), (q2, .inl (k 0, 800, .inl (fun _ => 0))), (q3, .inl (k 0, 4, .inl (fun _ => 0))), (q4, .inl (k 0, 800, .inl (fun _ => 0))), (q5, .inl (k 0, 20, .inl (fun _ => 0))), (q6, .inl (k 0, 20, .inl (fun _ => 0))), (q7, .inl (k 0, 20, .inl (fun _ => 0)))]) rfl rfl d_Mo_init_63 (fun H locs S => ?_)
  refine lv_aload_n hx hb d_Mo_init_66 rfl (lv_at hl 0 rfl) ?_
  refine lv_bipush (v := (-2)) hx hb d_Mo_init_67 (by decide) ?_
  refine r_put C K S 0 rfl rfl clOk_Mo 11 (by decide) wf_Mo_35 rfl (ty := .int) (v := .int (-2)) (by decide +kernel) rfl rfl (Nat.le_of_ble_eq_true rfl) (fs' := [.int 0, .ref q1, .ref q2, .ref q3, .int (-2), .ref q4, .ref q5, .ref q6, .ref q7, .int 0, .long 0, .int (-2), .int 0, .null, .null, .null, .null, .null, .int 0, .null, .int 0, .int 0, .int 0, .int 0, .int 0, .int 0, .int 0, .null, .int 0, .int 0, .int 0, .int 0, .null, .null, .int 0, .null, .null, .null, .null, .null, .int 0, .null, .null, .null, .null, .null, .null, .null, .int 0, .int 0, .int 0, .int 0, .int 0, .int 0, .int 0, .null, .null, .int 0, .int 0, .int 0, .int 0]) (ws' := [(h0, .inr (8, [.int 0, .ref q1, .ref q2, .ref q3, .int (-2), .ref q4, .ref q5, .ref q6, .ref q7, .int 0, .long 0, .int (-2), .int 0, .null, .null, .null, .null, .null, .int 0, .null, .int 0, .int 0, .int 0, .int 0, .int 0, .int 0, .int 0, .null, .int 0, .int 0, .int 0, .int 0, .null, .null, .int 0, .null, .null, .null, .null, .null, .int 0, .null, .null, .null, .null, .null, .null, .null, .int 0, .int 0, .int 0, .int 0, .int 0, .int 0, .int 0, .null, .null, .int 0, .int 0, .int 0, .int 0])), (q1, .inl (k 0, 4, .inl (fun _ => 0))), (q2, .inl (k 0, 800, .inl (fun _ => 0))), (q3, .inl (k 0, 4, .inl (fun _ => 0))), (q4, .inl (k 0, 800, .inl (fun _ => 0))), (q5, .inl (k 0, 20, .inl (fun _ => 0))), (q6, .inl (k 0, 20, .inl (fun _ => 0))), (q7, .inl (k 0, 20, .inl (fun _ => 0)))]) rfl rfl d_Mo_init_69 (fun H locs S => ?_)
  refine lv_aload_n hx hb d_Mo_init_72 rfl (lv_at hl 0 rfl) ?_
  refine lv_sipush (v := 1200) hx hb d_Mo_init_73 (by decide) ?_
  refine r_newI C K S hA 1200 (by decide) (by decide) (by decide) (Nat.le_of_ble_eq_true rfl) (Nat.le_of_ble_eq_true rfl) d_Mo_init_76 (fun q8 H S => ?_)
  have S : Sw G A s.heap _ _ [(h0, .inr (8, [.int 0, .ref q1, .ref q2, .ref q3, .int (-2), .ref q4, .ref q5, .ref q6, .ref q7, .int 0, .long 0, .int (-2), .int 0, .null, .null, .null, .null, .null, .int 0, .null, .int 0, .int 0, .int 0, .int 0, .int 0, .int 0, .int 0, .null, .int 0, .int 0, .int 0, .int 0, .null, .null, .int 0, .null, .null, .null, .null, .null, .int 0, .null, .null, .null, .null, .null, .null, .null, .int 0, .int 0, .int 0, .int 0, .int 0, .int 0, .int 0, .null, .null, .int 0, .int 0, .int 0, .int 0])), (q1, .inl (k 0, 4, .inl (fun _ => 0))), (q2, .inl (k 0, 800, .inl (fun _ => 0))), (q3, .inl (k 0, 4, .inl (fun _ => 0))), (q4, .inl (k 0, 800, .inl (fun _ => 0))), (q5, .inl (k 0, 20, .inl (fun _ => 0))), (q6, .inl (k 0, 20, .inl (fun _ => 0))), (q7, .inl (k 0, 20, .inl (fun _ => 0))), (q8, .inl (k 0, 1200, .inl (fun _ => 0)))] := S
  refine r_putF C K S 0 rfl rfl clOk_Mo 13 (by decide) wf_Mo_38 rfl rfl (ty := .array .int) (v := .ref q8) (by decide +kernel) rfl rfl (Nat.le_of_ble_eq_true rfl) (fs' := [.int 0, .ref q1, .ref q2, .ref q3, .int (-2), .ref q4, .ref q5, .ref q6, .ref q7, .int 0, .long 0, .int (-2), .int 0, .ref q8, .null, .null, .null, .null, .int 0, .null, .int 0, .int 0, .int 0, .int 0, .int 0, .int 0, .int 0, .null, .int 0, .int 0, .int 0, .int 0, .null, .null, .int 0, .null, .null, .null, .null, .null, .int 0, .null, .null, .null, .null, .null, .null, .null, .int 0, .int 0, .int 0, .int 0, .int 0, .int 0, .int 0, .null, .null, .int 0, .int 0, .int 0, .int 0]) (ws' := [(h0, .inr (8, [.int 0, .ref q1, .ref q2, .ref q3, .int (-2), .ref q4, .ref q5, .ref q6, .ref q7, .int 0, .long 0, .int (-2), .int 0, .ref q8, .null, .null, .null, .null, .int 0, .null, .int 0, .int 0, .int 0, .int 0, .int 0, .int 0, .int 0, .null, .int 0, .int 0, .int 0, .int 0, .null, .null, .int 0, .null, .null, .null, .null, .null, .int 0, .null, .null, .null, .null, .null, .null, .null, .int 0, .int 0, .int 0, .int 0, .int 0, .int 0, .int 0, .null, .null, .int 0, .int 0, .int 0, .int 0])), (q1, .inl (k 0, 4, .inl (fun _ => 0))), (q2, .inl (k 0, 800, .inl (fun _ => 0))), (q3, .inl (k 0, 4, .inl (fun _ => 0))), (q4, .inl (k 0, 800, .inl (fun _ => 0))), (q5, .inl (k 0, 20, .inl (fun _ => 0))), (q6, .inl (k 0, 20, .inl (fun _ => 0))), (q7, .inl (k 0, 20, .inl (fun _ => 0))), (q8, .inl (k 0, 1200, .inl (fun _ => 0)))]) rfl rfl d_Mo_init_78 (fun H locs S => ?_)
  refine lv_aload_n hx hb d_Mo_init_81 rfl (lv_at hl 0 rfl) ?_
  refine lv_sipush (v := 1200) hx hb d_Mo_init_82 (by decide) ?_
  refine r_newI C K S hA 1200 (by decide) (by decide) (by decide) (Nat.le_of_ble_eq_true rfl) (Nat.le_of_ble_eq_true rfl) d_Mo_init_85 (fun q9 H S => ?_)
  have S : Sw G A s.heap _ _ [(h0, .inr (8, [.int 0, .ref q1, .ref q2, .ref q3, .int (-2), .ref q4, .ref q5, .ref q6, .ref q7, .int 0, .long 0, .int (-2), .int 0, .ref q8, .null, .null, .null, .null, .int 0, .null, .int 0, .int 0, .int 0, .int 0, .int 0, .int 0, .int 0, .null, .int 0, .int 0, .int 0, .int 0, .null, .null, .int 0, .null, .null, .null, .null, .null, .int 0, .null, .null, .null, .null, .null, .null, .null, .int 0, .int 0, .int 0, .int 0, .int 0, .int 0, .int 0, .null, .null, .int 0, .int 0, .int 0, .int 0])), (q1, .inl (k 0, 4, .inl (fun _ => 0))), (q2, .inl (k 0, 800, .inl (fun _ => 0))), (q3, .inl (k 0, 4, .inl (fun _ => 0))), (q4, .inl (k 0, 800, .inl (fun _ => 0))), (q5, .inl (k 0, 20, .inl (fun _ => 0))), (q6, .inl (k 0, 20, .inl (fun _ => 0))), (q7, .inl (k 0, 20, .inl (fun _ => 0))), (q8, .inl (k 0, 1200, .inl (fun _ => 0))), (q9, .inl (k 0, 1200, .inl (fun _ => 0)))] := S
  refine r_putF C K S 0 rfl rfl clOk_Mo 14 (by decide) wf_Mo_41 rfl rfl (ty := .array .int) (v := .ref q9) (by decide +kernel) rfl rfl (Nat.le_of_ble_eq_true rfl) (fs' := [.int 0, .ref q1, .ref q2, .ref q3, .int (-2), .ref q4, .ref q5, .ref q6, .ref q7, .int 0, .long 0, .int (-2), .int 0, .ref q8, .ref q9, .null, .null, .null, .int 0, .null, .int 0, .int 0, .int 0, .int 0, .int 0, .int 0, .int 0, .null, .int 0, .int 0, .int 0, .int 0, .null, .null, .int 0, .null, .null, .null, .null, .null, .int 0, .null, .null, .null, .null, .null, .null, .null, .int 0, .int 0, .int 0, .int 0, .int 0, .int 0, .int 0, .null, .null, .int 0, .int 0, .int 0, .int 0]) (ws' := [(h0, .inr (8, [.int 0, .ref q1, .ref q2, .ref q3, .int (-2), .ref q4, .ref q5, .ref q6, .ref q7, .int 0, .long 0, .int (-2), .int 0, .ref q8, .ref q9, .null, .null, .null, .int 0, .null, .int 0, .int 0, .int 0, .int 0, .int 0, .int 0, .int 0, .null, .int 0, .int 0, .int 0, .int 0, .null, .null, .int 0, .null, .null, .null, .null, .null, .int 0, .null, .null, .null, .null, .null, .null, .null, .int 0, .int 0, .int 0, .int 0, .int 0, .int 0, .int 0, .null, .null, .int 0, .int 0, .int 0, .int 0])), (q1, .inl (k 0, 4, .inl (fun _ => 0))), (q2, .inl (k 0, 800, .inl (fun _ => 0))), (q3, .inl (k 0, 4, .inl (fun _ => 0))), (q4, .inl (k 0, 800, .inl (fun _ => 0))), (q5, .inl (k 0, 20, .inl (fun _ => 0))), (q6, .inl (k 0, 20, .inl (fun _ => 0))), (q7, .inl (k 0, 20, .inl (fun _ => 0))), (q8, .inl (k 0, 1200, .inl (fun _ => 0))), (q9, .inl (k 0, 1200, .inl (fun _ => 0)))]) rfl rfl d_Mo_init_87 (fun H locs S => ?_)
  refine lv_aload_n hx hb d_Mo_init_90 rfl (lv_at hl 0 rfl) ?_
  refine lv_sipush (v := 1200) hx hb d_Mo_init_91 (by decide) ?_
  refine r_newI C K S hA 1200 (by decide) (by decide) (by decide) (Nat.le_of_ble_eq_true rfl) (Nat.le_of_ble_eq_true rfl) d_Mo_init_94 (fun q10 H S => ?_)
  have S : Sw G A s.heap _ _ [(h0, .inr (8, [.int 0, .ref q1, .ref q2, .ref q3, .int (-2), .ref q4, .ref q5, .ref q6, .ref q7, .int 0, .long 0, .int (-2), .int 0, .ref q8, .ref q9, .null, .null, .null, .int 0, .null, .int 0, .int 0, .int 0, .int 0, .int 0, .int 0, .int 0, .null, .int 0, .int 0, .int 0, .int 0, .null, .null, .int 0, .null, .null, .null, .null, .null, .int 0, .null, .null, .null, .null, .null, .null, .null, .int 0, .int 0, .int 0, .int 0, .int 0, .int 0, .int 0, .null, .null, .int 0, .int 0, .int 0, .int 0])), (q1, .inl (k 0, 4, .inl (fun _ => 0))), (q2, .inl (k 0, 800, .inl (fun _ => 0))), (q3, .inl (k 0, 4, .inl (fun _ => 0))), (q4, .inl (k 0, 800, .inl (fun _ => 0))), (q5, .inl (k 0, 20, .inl (fun _ => 0))), (q6, .inl (k 0, 20, .inl (fun _ => 0))), (q7, .inl (k 0, 20, .inl (fun _ => 0))), (q8, .inl (k 0, 1200, .inl (fun _ => 0))), (q9, .inl (k 0, 1200, .inl (fun _ => 0))), (q10, .inl (k 0, 1200, .inl (fun _ => 0)))] := S
  refine r_putF C K S 0 rfl rfl clOk_Mo 15 (by decide) wf_Mo_44 rfl rfl (ty := .array .int) (v := .ref q10) (by decide +kernel) rfl rfl (Nat.le_of_ble_eq_true rfl) (fs' := [.int 0, .ref q1, .ref q2, .ref q3, .int (-2), .ref q4, .ref q5, .ref q6, .ref q7, .int 0, .long 0, .int (-2), .int 0, .ref q8, .ref q9, .ref q10, .null, .null, .int 0, .null, .int 0, .int 0, .int 0, .int 0, .int 0, .int 0, .int 0, .null, .int 0, .int 0, .int 0, .int 0, .null, .null, .int 0, .null, .null, .null, .null, .null, .int 0, .null, .null, .null, .null, .null, .null, .null, .int 0, .int 0, .int 0, .int 0, .int 0, .int 0, .int 0, .null, .null, .int 0, .int 0, .int 0, .int 0]) (ws' := [(h0, .inr (8, [.int 0, .ref q1, .ref q2, .ref q3, .int (-2), .ref q4, .ref q5, .ref q6, .ref q7, .int 0, .long 0, .int (-2), .int 0, .ref q8, .ref q9, .ref q10, .null, .null, .int 0, .null, .int 0, .int 0, .int 0, .int 0, .int 0, .int 0, .int 0, .null, .int 0, .int 0, .int 0, .int 0, .null, .null, .int 0, .null, .null, .null, .null, .null, .int 0, .null, .null, .null, .null, .null, .null, .null, .int 0, .int 0, .int 0, .int 0, .int 0, .int 0, .int 0, .null, .null, .int 0, .int 0, .int 0, .int 0])), (q1, .inl (k 0, 4, .inl (fun _ => 0))), (q2, .inl (k 0, 800, .inl (fun _ => 0))), (q3, .inl (k 0, 4, .inl (fun _ => 0))), (q4, .inl (k 0, 800, .inl (fun _ => 0))), (q5, .inl (k 0, 20, .inl (fun _ => 0))), (q6, .inl (k 0, 20, .inl (fun _ => 0))), (q7, .inl (k 0, 20, .inl (fun _ => 0))), (q8, .inl (k 0, 1200, .inl (fun _ => 0))), (q9, .inl (k 0, 1200, .inl (fun _ => 0))), (q10, .inl (k 0, 1200, .inl (fun _ => 0)))]) rfl rfl d_Mo_init_96 (fun H locs S => ?_)
  refine lv_aload_n hx hb d_Mo_init_99 rfl (lv_at hl 0 rfl) ?_
  refine lv_sipush (v := 1200) hx hb d_Mo_init_100 (by decide) ?_
  refine r_newI C K S hA 1200 (by decide) (by decide) (by decide) (Nat.le_of_ble_eq_true rfl) (Nat.le_of_ble_eq_true rfl) d_Mo_init_103 (fun q11 H S => ?_)
  have S : Sw G A s.heap _ _ [(h0, .inr (8, [.int 0, .ref q1, .ref q2, .ref q3, .int (-2), .ref q4, .ref q5, .ref q6, .ref q7, .int 0, .long 0, .int (-2), .int 0, .ref q8, .ref q9, .ref q10, .null, .null, .int 0, .null, .int 0, .int 0, .int 0, .int 0, .int 0, .int 0, .int 0, .null, .int 0, .int 0, .int 0, .int 0, .null, .null, .int 0, .null, .null, .null, .null, .null, .int 0, .null, .null, .null, .null, .null, .null, .null, .int 0, .int 0, .int 0, .int 0, .int 0, .int 0, .int 0, .null, .null, .int 0, .int 0, .int 0, .int 0])), (q1, .inl (k 0, 4, .inl (fun _ => 0))), (q2, .inl (k 0, 800, .inl (fun _ => 0))), (q3, .inl (k 0, 4, .inl (fun _ => 0))), (q4, .inl (k 0, 800, .inl (fun _ => 0))), (q5, .inl (k 0, 20, .inl (fun _ => 0))), (q6, .inl (k 0, 20, .inl (fun _ => 0))), (q7, .inl (k 0, 20, .inl (fun _ => 0))), (q8, .inl (k 0, 1200, .inl (fun _ => 0))), (q9, .inl (k 0, 1200, .inl (fun _ => 0))), (q10, .inl (k 0, 1200, .inl (fun _ => 0))), (q11, .inl (k 0, 1200, .inl (fun _ => 0)))] := S
  refine r_putF C K S 0 rfl rfl clOk_Mo 16 (by decide) wf_Mo_47 rfl rfl (ty := .array .int) (v := .ref q11) (by decide +kernel) rfl rfl (Nat.le_of_ble_eq_true rfl) (fs' := [.int 0, .ref q1, .ref q2, .ref q3, .int (-2), .ref q4, .ref q5, .ref q6, .ref q7, .int 0, .long 0, .int (-2), .int 0, .ref q8, .ref q9, .ref q10, .ref q11, .null, .int 0, .null, .int 0, .int 0, .int 0, .int 0, .int 0, .int 0, .int 0, .null, .int 0, .int 0, .int 0, .int 0, .null, .null, .int 0, .null, .null, .null, .null, .null, .int 0, .null, .null, .null, .null, .null, .null, .null, .int 0, .int 0, .int 0, .int 0, .int 0, .int 0, .int 0, .null, .null, .int 0, .int 0, .int 0, .int 0]) (ws' := [(h0, .inr (8, [.int 0, .ref q1, .ref q2, .ref q3, .int (-2), .ref q4, .ref q5, .ref q6, .ref q7, .int 0, .long 0, .int (-2), .int 0, .ref q8, .ref q9, .ref q10, .ref q11, .null, .int 0, .null, .int 0, .int 0, .int 0, .int 0, .int 0, .int 0, .int 0, .null, .int 0, .int 0, .int 0, .int 0, .null, .null, .int 0, .null, .null, .null, .null, .null, .int 0, .null, .null, .null, .null, .null, .null, .null, .int 0, .int 0, .int 0, .int 0, .int 0, .int 0, .int 0, .null, .null, .int 0, .int 0, .int 0, .int 0])), (q1, .inl (k 0, 4, .inl (fun _ => 0))), (q2, .inl (k 0, 800, .inl (fun _ => 0))), (q3, .inl (k 0, 4, .inl (fun _ => 0))), (q4, .inl (k 0, 800, .inl (fun _ => 0))), (q5, .inl (k 0, 20, .inl (fun _ => 0))), (q6, .inl (k 0, 20, .inl (fun _ => 0))), (q7, .inl (k 0, 20, .inl (fun _ => 0))), (q8, .inl (k 0, 1200, .inl (fun _ => 0))), (q9, .inl (k 0, 1200, .inl (fun _ => 0))), (q10, .inl (k 0, 1200, .inl (fun _ => 0))), (q11, .inl (k 0, 1200, .inl (fun _ => 0)))]) rfl rfl d_Mo_init_105 (fun H locs S => ?_)
  refine lv_aload_n hx hb d_Mo_init_108 rfl (lv_at hl 0 rfl) ?_
  refine lv_sipush (v := 1200) hx hb d_Mo_init_109 (by decide) ?_
  refine r_newI C K S hA 1200 (by decide) (by decide) (by decide) (Nat.le_of_ble_eq_true rfl) (Nat.le_of_ble_eq_true rfl) d_Mo_init_112 (fun q12 H S => ?_)
  have S : Sw G A s.heap _ _ [(h0, .inr (8, [.int 0, .ref q1, .ref q2, .ref q3, .int (-2), .ref q4, .ref q5, .ref q6, .ref q7, .int 0, .long 0, .int (-2), .int 0, .ref q8, .ref q9, .ref q10, .ref q11, .null, .int 0, .null, .int 0, .int 0, .int 0, .int 0, .int 0, .int 0, .int 0, .null, .int 0, .int 0, .int 0, .int 0, .null, .null, .int 0, .null, .null, .null, .null, .null, .int 0, .null, .null, .null, .null, .null, .null, .null, .int 0, .int 0, .int 0, .int 0, .int 0, .int 0, .int 0, .null, .null, .int 0, .int 0, .int 0, .int 0])), (q1, .inl (k 0, 4, .inl (fun _ => 0))), (q2, .inl (k 0, 800, .inl (fun _ => 0))), (q3, .inl (k 0, 4, .inl (fun _ => 0))), (q4, .inl (k 0, 800, .inl (fun _ => 0))), (q5, .inl (k 0, 20, .inl (fun _ => 0))), (q6, .inl (k 0, 20, .inl (fun _ => 0))), (q7, .inl (k 0, 20, .inl (fun _ => 0))), (q8, .inl (k 0, 1200, .inl (fun _ => 0))), (q9, .inl (k 0, 1200, .inl (fun _ => 0))), (q10, .inl (k 0, 1200, .inl (fun _ => 0))), (q11, .inl (k 0, 1200, .inl (fun _ => 0))), (q12, .inl (k 0, 1200, .inl (fun _ => 0)))] := S
  refine r_putF C K S 0 rfl rfl clOk_Mo 17 (by decide) wf_Mo_50 rfl rfl (ty := .array .int) (v := .ref q12) (by decide +kernel) rfl rfl (Nat.le_of_ble_eq_true rfl) (fs' := [.int 0, .ref q1, .ref q2, .ref q3, .int (-2), .ref q4, .ref q5, .ref q6, .ref q7, .int 0, .long 0, .int (-2), .int 0, .ref q8, .ref q9, .ref q10, .ref q11, .ref q12, .int 0, .null, .int 0, .int 0, .int 0, .int 0, .int 0, .int 0, .int 0, .null, .int 0, .int 0, .int 0, .int 0, .null, .null, .int 0, .null, .null, .null, .null, .null, .int 0, .null, .null, .null, .null, .null, .null, .null, .int 0, .int 0, .int 0, .int 0, .int 0, .int 0, .int 0, .null, .null, .int 0, .int 0, .int 0, .int 0]) (ws' := [(h0, .inr (8, [.int 0, .ref q1, .ref q2, .ref q3, .int (-2), .ref q4, .ref q5, .ref q6, .ref q7, .int 0, .long 0, .int (-2), .int 0, .ref q8, .ref q9, .ref q10, .ref q11, .ref q12, .int 0, .null, .int 0, .int 0, .int 0, .int 0, .int 0, .int 0, .int 0, .null, .int 0, .int 0, .int 0, .int 0, .null, .null, .int 0, .null, .null, .null, .null, .null, .int 0, .null, .null, .null, .null, .null, .null, .null, .int 0, .int 0, .int 0, .int 0, .int 0, .int 0, .int 0, .null, .null, .int 0, .int 0, .int 0, .int 0])), (q1, .inl (k 0, 4, .inl (fun _ => 0))), (q2, .inl (k 0, 800, .inl (fun _ => 0))), (q3, .inl (k 0, 4, .inl (fun _ => 0))), (q4, .inl (k 0, 800, .inl (fun _ => 0))), (q5, .inl (k 0, 20, .inl (fun _ => 0))), (q6, .inl (k 0, 20, .inl (fun _ => 0))), (q7, .inl (k 0, 20, .inl (fun _ => 0))), (q8, .inl (k 0, 1200, .inl (fun _ => 0))), (q9, .inl (k 0, 1200, .inl (fun _ => 0))), (q10, .inl (k 0, 1200, .inl (fun _ => 0))), (q11, .inl (k 0, 1200, .inl (fun _ => 0))), (q12, .inl (k 0, 1200, .inl (fun _ => 0)))]) rfl rfl d_Mo_init_114 (fun H locs S => ?_)
  refine lv_aload_n hx hb d_Mo_init_117 rfl (lv_at hl 0 rfl) ?_
  refine lv_sipush (v := 1400) hx hb d_Mo_init_118 (by decide) ?_
  refine r_newI C K S hA 1400 (by decide) (by decide) (by decide) (Nat.le_of_ble_eq_true rfl) (Nat.le_of_ble_eq_true rfl) d_Mo_init_121 (fun q13 H S => ?_)
  have S : Sw G A s.heap _ _ [(h0, .inr (8, [.int 0, .ref q1, .ref q2, .ref q3, .int (-2), .ref q4, .ref q5, .ref q6, .ref q7, .int 0, .long 0, .int (-2), .int 0, .ref q8, .ref q9, .ref q10, .ref q11, .ref q12, .int 0, .null, .int 0, .int 0, .int 0, .int 0, .int 0, .int 0, .int 0, .null, .int 0, .int 0, .int 0, .int 0, .null, .null, .int 0, .null, .null, .null, .null, .null, .int 0, .null, .null, .null, .null, .null, .null, .null, .int 0, .int 0, .int 0, .int 0, .int 0, .int 0, .int 0, .null, .null, .int 0, .int 0, .int 0, .int 0])), (q1, .inl (k 0, 4, .inl (fun _ => 0))), (q2, .inl (k 0, 800, .inl (fun _ => 0))), (q3, .inl (k 0, 4, .inl (fun _ => 0))), (q4, .inl (k 0, 800, .inl (fun _ => 0))), (q5, .inl (k 0, 20, .inl (fun _ => 0))), (q6, .inl (k 0, 20, .inl (fun _ => 0))), (q7, .inl (k 0, 20, .inl (fun _ => 0))), (q8, .inl (k 0, 1200, .inl (fun _ => 0))), (q9, .inl (k 0, 1200, .inl (fun _ => 0))), (q10, .inl (k 0, 1200, .inl (fun _ => 0))), (q11, .inl (k 0, 1200, .inl (fun _ => 0))), (q12, .inl (k 0, 1200, .inl (fun _ => 0))), (q13, .inl (k 0, 1400, .inl (fun _ => 0)))] := S
  refine r_putF C K S 0 rfl rfl clOk_Mo 19 (by decide) wf_Mo_53 rfl rfl (ty := .array .int) (v := .ref q13) (by decide +kernel) rfl rfl (Nat.le_of_ble_eq_true rfl) (fs' := [.int 0, .ref q1, .ref q2, .ref q3, .int (-2), .ref q4, .ref q5, .ref q6, .ref q7, .int 0, .long 0, .int (-2), .int 0, .ref q8, .ref q9, .ref q10, .ref q11, .ref q12, .int 0, .ref q13, .int 0, .int 0, .int 0, .int 0, .int 0, .int 0, .int 0, .null, .int 0, .int 0, .int 0, .int 0, .null, .null, .int 0, .null, .null, .null, .null, .null, .int 0, .null, .null, .null, .null, .null, .null, .null, .int 0, .int 0, .int 0, .int 0, .int 0, .int 0, .int 0, .null, .null, .int 0, .int 0, .int 0, .int 0]) (ws' := [(h0, .inr (8, [.int 0, .ref q1, .ref q2, .ref q3, .int (-2), .ref q4, .ref q5, .ref q6, .ref q7, .int 0, .long 0, .int (-2), .int 0, .ref q8, .ref q9, .ref q10, .ref q11, .ref q12, .int 0, .ref q13, .int 0, .int 0, .int 0, .int 0, .int 0, .int 0, .int 0, .null, .int 0, .int 0, .int 0, .int 0, .null, .null, .int 0, .null, .null, .null, .null, .null, .int 0, .null, .null, .null, .null, .null, .null, .null, .int 0, .int 0, .int 0, .int 0, .int 0, .int 0, .int 0, .null, .null, .int 0, .int 0, .int 0, .int 0])), (q1, .inl (k 0, 4, .inl (fun _ => 0))), (q2, .inl (k 0, 800, .inl (fun _ => 0))), (q3, .inl (k 0, 4, .inl (fun _ => 0))), (q4, .inl (k 0, 800, .inl (fun _ => 0))), (q5, .inl (k 0, 20, .inl (fun _ => 0))), (q6, .inl (k 0, 20, .inl (fun _ => 0))), (q7, .inl (k 0, 20, .inl (fun _ => 0))), (q8, .inl (k 0, 1200, .inl (fun _ => 0))), (q9, .inl (k 0, 1200, .inl (fun _ => 0))), (q10, .inl (k 0, 1200, .inl (fun _ => 0))), (q11, .inl (k 0, 1200, .inl (fun _ => 0))), (q12, .inl (k 0, 1200, .inl (fun _ => 0))), (q13, .inl (k 0, 1400, .inl (fun _ => 0)))]) rfl rfl d_Mo_init_123 (fun H locs S => ?_)
  refine lv_aload_n hx hb d_Mo_init_126 rfl (lv_at hl 0 rfl) ?_
  refine lv_ldc (v := 36982) hx hb C.2.2.2.1 (C.2.2.2.2.1 _ wk_Mo_56) d_Mo_init_127 ?_
  refine r_newJ C K S hA 36982 (by decide) (by decide) (by decide) (Nat.le_of_ble_eq_true rfl) (Nat.le_of_ble_eq_true rfl) d_Mo_init_129 (fun q14 H S => ?_)
  have S : Sw G A s.heap _ _ [(h0, .inr (8, [.int 0, .ref q1, .ref q2, .ref q3, .int (-2), .ref q4, .ref q5, .ref q6, .ref q7, .int 0, .long 0, .int (-2), .int 0, .ref q8, .ref q9, .ref q10, .ref q11, .ref q12, .int 0, .ref q13, .int 0, .int 0, .int 0, .int 0, .int 0, .int 0, .int 0, .null, .int 0, .int 0, .int 0, .int 0, .null, .null, .int 0, .null, .null, .null, .null, .null, .int 0, .null, .null, .null, .null, .null, .null, .null, .int 0, .int 0, .int 0, .int 0, .int 0, .int 0, .int 0, .null, .null, .int 0, .int 0, .int 0, .int 0])), (q1, .inl (k 0, 4, .inl (fun _ => 0))), (q2, .inl (k 0, 800, .inl (fun _ => 0))), (q3, .inl (k 0, 4, .inl (fun _ => 0))), (q4, .inl (k 0, 800, .inl (fun _ => 0))), (q5, .inl (k 0, 20, .inl (fun _ => 0))), (q6, .inl (k 0, 20, .inl (fun _ => 0))), (q7, .inl (k 0, 20, .inl (fun _ => 0))), (q8, .inl (k 0, 1200, .inl (fun _ => 0))), (q9, .inl (k 0, 1200, .inl (fun _ => 0))), (q10, .inl (k 0, 1200, .inl (fun _ => 0))), (q11, .inl (k 0, 1200, .inl (fun _ => 0))), (q12, .inl (k 0, 1200, .inl (fun _ => 0))), (q13, .inl (k 0, 1400, .inl (fun _ => 0))), (q14, .inl (k 1, 36982, .inr (.inl (fun _ => 0))))] := S
  refine r_putF C K S 0 rfl rfl clOk_Mo 27 (by decide) wf_Mo_57 rfl rfl (ty := .array .long) (v := .ref q14) (by decide +kernel) rfl rfl (Nat.le_of_ble_eq_true rfl) (fs' := [.int 0, .ref q1, .ref q2, .ref q3, .int (-2), .ref q4, .ref q5, .ref q6, .ref q7, .int 0, .long 0, .int (-2), .int 0, .ref q8, .ref q9, .ref q10, .ref q11, .ref q12, .int 0, .ref q13, .int 0, .int 0, .int 0, .int 0, .int 0, .int 0, .int 0, .ref q14, .int 0, .int 0, .int 0, .int 0, .null, .null, .int 0, .null, .null, .null, .null, .null, .int 0, .null, .null, .null, .null, .null, .null, .null, .int 0, .int 0, .int 0, .int 0, .int 0, .int 0, .int 0, .null, .null, .int 0, .int 0, .int 0, .int 0]) (ws' := [(h0, .inr (8, [.int 0, .ref q1, .ref q2, .ref q3, .int (-2), .ref q4, .ref q5, .ref q6, .ref q7, .int 0, .long 0, .int (-2), .int 0, .ref q8, .ref q9, .ref q10, .ref q11, .ref q12, .int 0, .ref q13, .int 0, .int 0, .int 0, .int 0, .int 0, .int 0, .int 0, .ref q14, .int 0, .int 0, .int 0, .int 0, .null, .null, .int 0, .null, .null, .null, .null, .null, .int 0, .null, .null, .null, .null, .null, .null, .null, .int 0, .int 0, .int 0, .int 0, .int 0, .int 0, .int 0, .null, .null, .int 0, .int 0, .int 0, .int 0])), (q1, .inl (k 0, 4, .inl (fun _ => 0))), (q2, .inl (k 0, 800, .inl (fun _ => 0))), (q3, .inl (k 0, 4, .inl (fun _ => 0))), (q4, .inl (k 0, 800, .inl (fun _ => 0))), (q5, .inl (k 0, 20, .inl (fun _ => 0))), (q6, .inl (k 0, 20, .inl (fun _ => 0))), (q7, .inl (k 0, 20, .inl (fun _ => 0))), (q8, .inl (k 0, 1200, .inl (fun _ => 0))), (q9, .inl (k 0, 1200, .inl (fun _ => 0))), (q10, .inl (k 0, 1200, .inl (fun _ => 0))), (q11, .inl (k 0, 1200, .inl (fun _ => 0))), (q12, .inl (k 0, 1200, .inl (fun _ => 0))), (q13, .inl (k 0, 1400, .inl (fun _ => 0))), (q14, .inl (k 1, 36982, .inr (.inl (fun _ => 0))))]) rfl rfl d_Mo_init_131 (fun H locs S => ?_)
  refine lv_aload_n hx hb d_Mo_init_134 rfl (lv_at hl 0 rfl) ?_
  refine lv_iconst (v := 4) hx hb d_Mo_init_135 (by decide) ?_
  refine r_newI C K S hA 4 (by decide) (by decide) (by decide) (Nat.le_of_ble_eq_true rfl) (Nat.le_of_ble_eq_true rfl) d_Mo_init_136 (fun q15 H S => ?_)
  have S : Sw G A s.heap _ _ [(h0, .inr (8, [.int 0, .ref q1, .ref q2, .ref q3, .int (-2), .ref q4, .ref q5, .ref q6, .ref q7, .int 0, .long 0, .int (-2), .int 0, .ref q8, .ref q9, .ref q10, .ref q11, .ref q12, .int 0, .ref q13, .int 0, .int 0, .int 0, .int 0, .int 0, .int 0, .int 0, .ref q14, .int 0, .int 0, .int 0, .int 0, .null, .null, .int 0, .null, .null, .null, .null, .null, .int 0, .null, .null, .null, .null, .null, .null, .null, .int 0, .int 0, .int 0, .int 0, .int 0, .int 0, .int 0, .null, .null, .int 0, .int 0, .int 0, .int 0])), (q1, .inl (k 0, 4, .inl (fun _ => 0))), (q2, .inl (k 0, 800, .inl (fun _ => 0))), (q3, .inl (k 0, 4, .inl (fun _ => 0))), (q4, .inl (k 0, 800, .inl (fun _ => 0))), (q5, .inl (k 0, 20, .inl (fun _ => 0))), (q6, .inl (k 0, 20, .inl (fun _ => 0))), (q7, .inl (k 0, 20, .inl (fun _ => 0))), (q8, .inl (k 0, 1200, .inl (fun _ => 0))), (q9, .inl (k 0, 1200, .inl (fun _ => 0))), (q10, .inl (k 0, 1200, .inl (fun _ => 0))), (q11, .inl (k 0, 1200, .inl (fun _ => 0))), (q12, .inl (k 0, 1200, .inl (fun _ => 0))), (q13, .inl (k 0, 1400, .inl (fun _ => 0))), (q14, .inl (k 1, 36982, .inr (.inl (fun _ => 0)))), (q15, .inl (k 0, 4, .inl (fun _ => 0)))] := S
  refine r_putF C K S 0 rfl rfl clOk_Mo 32 (by decide) wf_Mo_61 rfl rfl (ty := .array .int) (v := .ref q15) (by decide +kernel) rfl rfl (Nat.le_of_ble_eq_true rfl) (fs' := [.int 0, .ref q1, .ref q2, .ref q3, .int (-2), .ref q4, .ref q5, .ref q6, .ref q7, .int 0, .long 0, .int (-2), .int 0, .ref q8, .ref q9, .ref q10, .ref q11, .ref q12, .int 0, .ref q13, .int 0, .int 0, .int 0, .int 0, .int 0, .int 0, .int 0, .ref q14, .int 0, .int 0, .int 0, .int 0, .ref q15, .null, .int 0, .null, .null, .null, .null, .null, .int 0, .null, .null, .null, .null, .null, .null, .null, .int 0, .int 0, .int 0, .int 0, .int 0, .int 0, .int 0, .null, .null, .int 0, .int 0, .int 0, .int 0]) (ws' := [(h0, .inr (8, [.int 0, .ref q1, .ref q2, .ref q3, .int (-2), .ref q4, .ref q5, .ref q6, .ref q7, .int 0, .long 0, .int (-2), .int 0, .ref q8, .ref q9, .ref q10, .ref q11, .ref q12, .int 0, .ref q13, .int 0, .int 0, .int 0, .int 0, .int 0, .int 0, .int 0, .ref q14, .int 0, .int 0, .int 0, .int 0, .ref q15, .null, .int 0, .null, .null, .null, .null, .null, .int 0, .null, .null, .null, .null, .null, .null, .null, .int 0, .int 0, .int 0, .int 0, .int 0, .int 0, .int 0, .null, .null, .int 0, .int 0, .int 0, .int 0])), (q1, .inl (k 0, 4, .inl (fun _ => 0))), (q2, .inl (k 0, 800, .inl (fun _ => 0))), (q3, .inl (k 0, 4, .inl (fun _ => 0))), (q4, .inl (k 0, 800, .inl (fun _ => 0))), (q5, .inl (k 0, 20, .inl (fun _ => 0))), (q6, .inl (k 0, 20, .inl (fun _ => 0))), (q7, .inl (k 0, 20, .inl (fun _ => 0))), (q8, .inl (k 0, 1200, .inl (fun _ => 0))), (q9, .inl (k 0, 1200, .inl (fun _ => 0))), (q10, .inl (k 0, 1200, .inl (fun _ => 0))), (q11, .inl (k 0, 1200, .inl (fun _ => 0))), (q12, .inl (k 0, 1200, .inl (fun _ => 0))), (q13, .inl (k 0, 1400, .inl (fun _ => 0))), (q14, .inl (k 1, 36982, .inr (.inl (fun _ => 0)))), (q15, .inl (k 0, 4, .inl (fun _ => 0)))]) rfl rfl d_Mo_init_138 (fun H locs S => ?_)
  refine lv_aload_n hx hb d_Mo_init_141 rfl (lv_at hl 0 rfl) ?_
  refine lv_sipush (v := 3690) hx hb d_Mo_init_142 (by decide) ?_
  refine r_newJ C K S hA 3690 (by decide) (by decide) (by decide) (Nat.le_of_ble_eq_true rfl) (Nat.le_of_ble_eq_true rfl) d_Mo_init_145 (fun q16 H S => ?_)
  have S : Sw G A s.heap _ _ [(h0, .inr (8, [.int 0, .ref q1, .ref q2, .ref q3, .int (-2), .ref q4, .ref q5, .ref q6, .ref q7, .int 0, .long 0, .int (-2), .int 0, .ref q8, .ref q9, .ref q10, .ref q11, .ref q12, .int 0, .ref q13, .int 0, .int 0, .int 0, .int 0, .int 0, .int 0, .int 0, .ref q14, .int 0, .int 0, .int 0, .int 0, .ref q15, .null, .int 0, .null, .null, .null, .null, .null, .int 0, .null, .null, .null, .null, .null, .null, .null, .int 0, .int 0, .int 0, .int 0, .int 0, .int 0, .int 0, .null, .null, .int 0, .int 0, .int 0, .int 0])), (q1, .inl (k 0, 4, .inl (fun _ => 0))), (q2, .inl (k 0, 800, .inl (fun _ => 0))), (q3, .inl (k 0, 4, .inl (fun _ => 0))), (q4, .inl (k 0, 800, .inl (fun _ => 0))), (q5, .inl (k 0, 20, .inl (fun _ => 0))), (q6, .inl (k 0, 20, .inl (fun _ => 0))), (q7, .inl (k 0, 20, .inl (fun _ => 0))), (q8, .inl (k 0, 1200, .inl (fun _ => 0))), (q9, .inl (k 0, 1200, .inl (fun _ => 0))), (q10, .inl (k 0, 1200, .inl (fun _ => 0))), (q11, .inl (k 0, 1200, .inl (fun _ => 0))), (q12, .inl (k 0, 1200, .inl (fun _ => 0))), (q13, .inl (k 0, 1400, .inl (fun _ => 0))), (q14, .inl (k 1, 36982, .inr (.inl (fun _ => 0)))), (q15, .inl (k 0, 4, .inl (fun _ => 0))), (q16, .inl (k 1, 3690, .inr (.inl (fun _ => 0))))] := S
  refine r_putF C K S 0 rfl rfl clOk_Mo 33 (by decide) wf_Mo_64 rfl rfl (ty := .array .long) (v := .ref q16) (by decide +kernel) rfl rfl (Nat.le_of_ble_eq_true rfl) (fs' := [.int 0, .ref q1, .ref q2, .ref q3, .int (-2), .ref q4, .ref q5, .ref q6, .ref q7, .int 0, .long 0, .int (-2), .int 0, .ref q8, .ref q9, .ref q10, .ref q11, .ref q12, .int 0, .ref q13, .int 0, .int 0, .int 0, .int 0, .int 0, .int 0, .int 0, .ref q14, .int 0, .int 0, .int 0, .int 0, .ref q15, .ref q16, .int 0, .null, .null, .null, .null, .null, .int 0, .null, .null, .null, .null, .null, .null, .null, .int 0, .int 0, .int 0, .int 0, .int 0, .int 0, .int 0, .null, .null, .int 0, .int 0, .int 0, .int 0]) (ws' := [(h0, .inr (8, [.int 0, .ref q1, .ref q2, .ref q3, .int (-2), .ref q4, .ref q5, .ref q6, .ref q7, .int 0, .long 0, .int (-2), .int 0, .ref q8, .ref q9, .ref q10, .ref q11, .ref q12, .int 0, .ref q13, .int 0, .int 0, .int 0, .int 0, .int 0, .int 0, .int 0, .ref q14, .int 0, .int 0, .int 0, .int 0, .ref q15, .ref q16, .int 0, .null, .null, .null, .null, .null, .int 0, .null, .null, .null, .null, .null, .null, .null, .int 0, .int 0, .int 0, .int 0, .int 0, .int 0, .int 0, .null, .null, .int 0, .int 0, .int 0, .int 0])), (q1, .inl (k 0, 4, .inl (fun _ => 0))), (q2, .inl (k 0, 800, .inl (fun _ => 0))), (q3, .inl (k 0, 4, .inl (fun _ => 0))), (q4, .inl (k 0, 800, .inl (fun _ => 0))), (q5, .inl (k 0, 20, .inl (fun _ => 0))), (q6, .inl (k 0, 20, .inl (fun _ => 0))), (q7, .inl (k 0, 20, .inl (fun _ => 0))), (q8, .inl (k 0, 1200, .inl (fun _ => 0))), (q9, .inl (k 0, 1200, .inl (fun _ => 0))), (q10, .inl (k 0, 1200, .inl (fun _ => 0))), (q11, .inl (k 0, 1200, .inl (fun _ => 0))), (q12, .inl (k 0, 1200, .inl (fun _ => 0))), (q13, .inl (k 0, 1400, .inl (fun _ => 0))), (q14, .inl (k 1, 36982, .inr (.inl (fun _ => 0)))), (q15, .inl (k 0, 4, .inl (fun _ => 0))), (q16, .inl (k 1, 3690, .inr (.inl (fun _ => 0))))]) rfl rfl d_Mo_init_147 (fun H locs S => ?_)
  refine lv_aload_n hx hb d_Mo_init_150 rfl (lv_at hl 0 rfl) ?_
  refine lv_bipush (v := 20) hx hb d_Mo_init_151 (by decide) ?_
  refine r_newI C K S hA 20 (by decide) (by decide) (by decide) (Nat.le_of_ble_eq_true rfl) (Nat.le_of_ble_eq_true rfl) d_Mo_init_153 (fun q17 H S => ?_)
  have S : Sw G A s.heap _ _ [(h0, .inr (8, [.int 0, .ref q1, .ref q2, .ref q3, .int (-2), .ref q4, .ref q5, .ref q6, .ref q7, .int 0, .long 0, .int (-2), .int 0, .ref q8, .ref q9, .ref q10, .ref q11, .ref q12, .int 0, .ref q13, .int 0, .int 0, .int 0, .int 0, .int 0, .int 0, .int 0, .ref q14, .int 0, .int 0, .int 0, .int 0, .ref q15, .ref q16, .int 0, .null, .null, .null, .null, .null, .int 0, .null, .null, .null, .null, .null, .null, .null, .int 0, .int 0, .int 0, .int 0, .int 0, .int 0, .int 0, .null, .null, .int 0, .int 0, .int 0, .int 0])), (q1, .inl (k 0, 4, .inl (fun _ => 0))), (q2, .inl (k 0, 800, .inl (fun _ => 0))), (q3, .inl (k 0, 4, .inl (fun _ => 0))), (q4, .inl (k 0, 800, .inl (fun _ => 0))), (q5, .inl (k 0, 20, .inl (fun _ => 0))), (q6, .inl (k 0, 20, .inl (fun _ => 0))), (q7, .inl (k 0, 20, .inl (fun _ => 0))), (q8, .inl (k 0, 1200, .inl (fun _ => 0))), (q9, .inl (k 0, 1200, .inl (fun _ => 0))), (q10, .inl (k 0, 1200, .inl (fun _ => 0))), (q11, .inl (k 0, 1200, .inl (fun _ => 0))), (q12, .inl (k 0, 1200, .inl (fun _ => 0))), (q13, .inl (k 0, 1400, .inl (fun _ => 0))), (q14, .inl (k 1, 36982, .inr (.inl (fun _ => 0)))), (q15, .inl (k 0, 4, .inl (fun _ => 0))), (q16, .inl (k 1, 3690, .inr (.inl (fun _ => 0)))), (q17, .inl (k 0, 20, .inl (fun _ => 0)))] := S
  refine r_putF C K S 0 rfl rfl clOk_Mo 35 (by decide) wf_Mo_67 rfl rfl (ty := .array .int) (v := .ref q17) (by decide +kernel) rfl rfl (Nat.le_of_ble_eq_true rfl) (fs' := [.int 0, .ref q1, .ref q2, .ref q3, .int (-2), .ref q4, .ref q5, .ref q6, .ref q7, .int 0, .long 0, .int (-2), .int 0, .ref q8, .ref q9, .ref q10, .ref q11, .ref q12, .int 0, .ref q13, .int 0, .int 0, .int 0, .int 0, .int 0, .int 0, .int 0, .ref q14, .int 0, .int 0, .int 0, .int 0, .ref q15, .ref q16, .int 0, .ref q17, .null, .null, .null, .null, .int 0, .null, .null, .null, .null, .null, .null, .null, .int 0, .int 0, .int 0, .int 0, .int 0, .int 0, .int 0, .null, .null, .int 0, .int 0, .int 0, .int 0]) (ws' := [(h0, .inr (8, [.int 0, .ref q1, .ref q2, .ref q3, .int (-2), .ref q4, .ref q5, .ref q6, .ref q7, .int 0, .long 0, .int (-2), .int 0, .ref q8, .ref q9, .ref q10, .ref q11, .ref q12, .int 0, .ref q13, .int 0, .int 0, .int 0, .int 0, .int 0, .int 0, .int 0, .ref q14, .int 0, .int 0, .int 0, .int 0, .ref q15, .ref q16, .int 0, .ref q17, .null, .null, .null, .null, .int 0, .null, .null, .null, .null, .null, .null, .null, .int 0, .int 0, .int 0, .int 0, .int 0, .int 0, .int 0, .null, .null, .int 0, .int 0, .int 0, .int 0])), (q1, .inl (k 0, 4, .inl (fun _ => 0))), (q2, .inl (k 0, 800, .inl (fun _ => 0))), (q3, .inl (k 0, 4, .inl (fun _ => 0))), (q4, .inl (k 0, 800, .inl (fun _ => 0))), (q5, .inl (k 0, 20, .inl (fun _ => 0))), (q6, .inl (k 0, 20, .inl (fun _ => 0))), (q7, .inl (k 0, 20, .inl (fun _ => 0))), (q8, .inl (k 0, 1200, .inl (fun _ => 0))), (q9, .inl (k 0, 1200, .inl (fun _ => 0))), (q10, .inl (k 0, 1200, .inl (fun _ => 0))), (q11, .inl (k 0, 1200, .inl (fun _ => 0))), (q12, .inl (k 0, 1200, .inl (fun _ => 0))), (q13, .inl (k 0, 1400, .inl (fun _ => 0))), (q14, .inl (k 1, 36982, .inr (.inl (fun _ => 0)))), (q15, .inl (k 0, 4, .inl (fun _ => 0))), (q16, .inl (k 1, 3690, .inr (.inl (fun _ => 0)))), (q17, .inl (k 0, 20, .inl (fun _ => 0)))]) rfl rfl d_Mo_init_155 (fun H locs S => ?_)
  refine lv_aload_n hx hb d_Mo_init_158 rfl (lv_at hl 0 rfl) ?_
  refine lv_bipush (v := 20) hx hb d_Mo_init_159 (by decide) ?_
  refine r_newI C K S hA 20 (by decide) (by decide) (by decide) (Nat.le_of_ble_eq_true rfl) (Nat.le_of_ble_eq_true rfl) d_Mo_init_161 (fun q18 H S => ?_)
  have S : Sw G A s.heap _ _ [(h0, .inr (8, [.int 0, .ref q1, .ref q2, .ref q3, .int (-2), .ref q4, .ref q5, .ref q6, .ref q7, .int 0, .long 0, .int (-2), .int 0, .ref q8, .ref q9, .ref q10, .ref q11, .ref q12, .int 0, .ref q13, .int 0, .int 0, .int 0, .int 0, .int 0, .int 0, .int 0, .ref q14, .int 0, .int 0, .int 0, .int 0, .ref q15, .ref q16, .int 0, .ref q17, .null, .null, .null, .null, .int 0, .null, .null, .null, .null, .null, .null, .null, .int 0, .int 0, .int 0, .int 0, .int 0, .int 0, .int 0, .null, .null, .int 0, .int 0, .int 0, .int 0])), (q1, .inl (k 0, 4, .inl (fun _ => 0))), (q2, .inl (k 0, 800, .inl (fun _ => 0))), (q3, .inl (k 0, 4, .inl (fun _ => 0))), (q4, .inl (k 0, 800, .inl (fun _ => 0))), (q5, .inl (k 0, 20, .inl (fun _ => 0))), (q6, .inl (k 0, 20, .inl (fun _ => 0))), (q7, .inl (k 0, 20, .inl (fun _ => 0))), (q8, .inl (k 0, 1200, .inl (fun _ => 0))), (q9, .inl (k 0, 1200, .inl (fun _ => 0))), (q10, .inl (k 0, 1200, .inl (fun _ => 0))), (q11, .inl (k 0, 1200, .inl (fun _ => 0))), (q12, .inl (k 0, 1200, .inl (fun _ => 0))), (q13, .inl (k 0, 1400, .inl (fun _ => 0))), (q14, .inl (k 1, 36982, .inr (.inl (fun _ => 0)))), (q15, .inl (k 0, 4, .inl (fun _ => 0))), (q16, .inl (k 1, 3690, .inr (.inl (fun _ => 0)))), (q17, .inl (k 0, 20, .inl (fun _ => 0))), (q18, .inl (k 0, 20, .inl (fun _ => 0)))] := S
  refine r_putF C K S 0 rfl rfl clOk_Mo 36 (by decide) wf_Mo_70 rfl rfl (ty := .array .int) (v := .ref q18) (by decide +kernel) rfl rfl (Nat.le_of_ble_eq_true rfl) (fs' := [.int 0, .ref q1, .ref q2, .ref q3, .int (-2), .ref q4, .ref q5, .ref q6, .ref q7, .int 0, .long 0, .int (-2), .int 0, .ref q8, .ref q9, .ref q10, .ref q11, .ref q12, .int 0, .ref q13, .int 0, .int 0, .int 0, .int 0, .int 0, .int 0, .int 0, .ref q14, .int 0, .int 0, .int 0, .int 0, .ref q15, .ref q16, .int 0, .ref q17, .ref q18, .null, .null, .null, .int 0, .null, .null, .null, .null, .null, .null, .null, .int 0, .int 0, .int 0, .int 0, .int 0, .int 0, .int 0, .null, .null, .int 0, .int 0, .int 0, .int 0]) (ws' := [(h0, .inr (8, [.int 0, .ref q1, .ref q2, .ref q3, .int (-2), .ref q4, .ref q5, .ref q6, .ref q7, .int 0, .long 0, .int (-2), .int 0, .ref q8, .ref q9, .ref q10, .ref q11, .ref q12, .int 0, .ref q13, .int 0, .int 0, .int 0, .int 0, .int 0, .int 0, .int 0, .ref q14, .int 0, .int 0, .int 0, .int 0, .ref q15, .ref q16, .int 0, .ref q17, .ref q18, .null, .null, .null, .int 0, .null, .null, .null, .null, .null, .null, .null, .int 0, .int 0, .int 0, .int 0, .int 0, .int 0, .int 0, .null, .null, .int 0, .int 0, .int 0, .int 0])), (q1, .inl (k 0, 4, .inl (fun _ => 0))), (q2, .inl (k 0, 800, .inl (fun _ => 0))), (q3, .inl (k 0, 4, .inl (fun _ => 0))), (q4, .inl (k 0, 800, .inl (fun _ => 0))), (q5, .inl (k 0, 20, .inl (fun _ => 0))), (q6, .inl (k 0, 20, .inl (fun _ => 0))), (q7, .inl (k 0, 20, .inl (fun _ => 0))), (q8, .inl (k 0, 1200, .inl (fun _ => 0))), (q9, .inl (k 0, 1200, .inl (fun _ => 0))), (q10, .inl (k 0, 1200, .inl (fun _ => 0))), (q11, .inl (k 0, 1200, .inl (fun _ => 0))), (q12, .inl (k 0, 1200, .inl (fun _ => 0))), (q13, .inl (k 0, 1400, .inl (fun _ => 0))), (q14, .inl (k 1, 36982, .inr (.inl (fun _ => 0)))), (q15, .inl (k 0, 4, .inl (fun _ => 0))), (q16, .inl (k 1, 3690, .inr (.inl (fun _ => 0)))), (q17, .inl (k 0, 20, .inl (fun _ => 0))), (q18, .inl (k 0, 20, .inl (fun _ => 0)))]) rfl rfl d_Mo_init_163 (fun H locs S => ?_)
  refine lv_aload_n hx hb d_Mo_init_166 rfl (lv_at hl 0 rfl) ?_
  refine lv_bipush (v := 20) hx hb d_Mo_init_167 (by decide) ?_
  refine r_newI C K S hA 20 (by decide) (by decide) (by decide) (Nat.le_of_ble_eq_true rfl) (Nat.le_of_ble_eq_true rfl) d_Mo_init_169 (fun q19 H S => ?_)
  have S : Sw G A s.heap _ _ [(h0, .inr (8, [.int 0, .ref q1, .ref q2, .ref q3, .int (-2), .ref q4, .ref q5, .ref q6, .ref q7, .int 0, .long 0, .int (-2), .int 0, .ref q8, .ref q9, .ref q10, .ref q11, .ref q12, .int 0, .ref q13, .int 0, .int 0, .int 0, .int 0, .int 0, .int 0, .int 0, .ref q14, .int 0, .int 0, .int 0, .int 0, .ref q15, .ref q16, .int 0, .ref q17, .ref q18, .null, .null, .null, .int 0, .null, .null, .null, .null, .null, .null, .null, .int 0, .int 0, .int 0, .int 0, .int 0, .int 0, .int 0, .null, .null, .int 0, .int 0, .int 0, .int 0])), (q1, .inl (k 0, 4, .inl (fun _ => 0))), (q2, .inl (k 0, 800, .inl (fun _ => 0))), (q3, .inl (k 0, 4, .inl (fun _ => 0))), (q4, .inl (k 0, 800, .inl (fun _ => 0))), (q5, .inl (k 0, 20, .inl (fun _ => 0))), (q6, .inl (k 0, 20, .inl (fun _ => 0))), (q7, .inl (k 0, 20, .inl (fun _ => 0))), (q8, .inl (k 0, 1200, .inl (fun _ => 0))), (q9, .inl (k 0, 1200, .inl (fun _ => 0))), (q10, .inl (k 0, 1200, .inl (fun _ => 0))), (q11, .inl (k 0, 1200, .inl (fun _ => 0))), (q12, .inl (k 0, 1200, .inl (fun _ => 0))), (q13, .inl (k 0, 1400, .inl (fun _ => 0))), (q14, .inl (k 1, 36982, .inr (.inl (fun _ => 0)))), (q15, .inl (k 0, 4, .inl (fun _ => 0))), (q16, .inl (k 1, 3690, .inr (.inl (fun _ => 0)))), (q17, .inl (k 0, 20, .inl (fun _ => 0))), (q18, .inl (k 0, 20, .inl (fun _ => 0))), (q19, .inl (k 0, 20, .inl (fun _ => 0)))] := S
  refine r_putF C K S 0 rfl rfl clOk_Mo 37 (by decide) wf_Mo_73 rfl rfl (ty := .array .int) (v := .ref q19) (by decide +kernel) rfl rfl (Nat.le_of_ble_eq_true rfl) (fs' := [.int 0, .ref q1, .ref q2, .ref q3, .int (-2), .ref q4, .ref q5, .ref q6, .ref q7, .int 0, .long 0, .int (-2), .int 0, .ref q8, .ref q9, .ref q10, .ref q11, .ref q12, .int 0, .ref q13, .int 0, .int 0, .int 0, .int 0, .int 0, .int 0, .int 0, .ref q14, .int 0, .int 0, .int 0, .int 0, .ref q15, .ref q16, .int 0, .ref q17, .ref q18, .ref q19, .null, .null, .int 0, .null, .null, .null, .null, .null, .null, .null, .int 0, .int 0, .int 0, .int 0, .int 0, .int 0, .int 0, .null, .null, .int 0, .int 0, .int 0, .int 0]) (ws' := [(h0, .inr (8, [.int 0, .ref q1, .ref q2, .ref q3, .int (-2), .ref q4, .ref q5, .ref q6, .ref q7, .int 0, .long 0, .int (-2), .int 0, .ref q8, .ref q9, .ref q10, .ref q11, .ref q12, .int 0, .ref q13, .int 0, .int 0, .int 0, .int 0, .int 0, .int 0, .int 0, .ref q14, .int 0, .int 0, .int 0, .int 0, .ref q15, .ref q16, .int 0, .ref q17, .ref q18, .ref q19, .null, .null, .int 0, .null, .null, .null, .null, .null, .null, .null, .int 0, .int 0, .int 0, .int 0, .int 0, .int 0, .int 0, .null, .null, .int 0, .int 0, .int 0, .int 0])), (q1, .inl (k 0, 4, .inl (fun _ => 0))), (q2, .inl (k 0, 800, .inl (fun _ => 0))), (q3, .inl (k 0, 4, .inl (fun _ => 0))), (q4, .inl (k 0, 800, .inl (fun _ => 0))), (q5, .inl (k 0, 20, .inl (fun _ => 0))), (q6, .inl (k 0, 20, .inl (fun _ => 0))), (q7, .inl (k 0, 20, .inl (fun _ => 0))), (q8, .inl (k 0, 1200, .inl (fun _ => 0))), (q9, .inl (k 0, 1200, .inl (fun _ => 0))), (q10, .inl (k 0, 1200, .inl (fun _ => 0))), (q11, .inl (k 0, 1200, .inl (fun _ => 0))), (q12, .inl (k 0, 1200, .inl (fun _ => 0))), (q13, .inl (k 0, 1400, .inl (fun _ => 0))), (q14, .inl (k 1, 36982, .inr (.inl (fun _ => 0)))), (q15, .inl (k 0, 4, .inl (fun _ => 0))), (q16, .inl (k 1, 3690, .inr (.inl (fun _ => 0)))), (q17, .inl (k 0, 20, .inl (fun _ => 0))), (q18, .inl (k 0, 20, .inl (fun _ => 0))), (q19, .inl (k 0, 20, .inl (fun _ => 0)))]) rfl rfl d_Mo_init_171 (fun H locs S => ?_)
  refine lv_aload_n hx hb d_Mo_init_174 rfl (lv_at hl 0 rfl) ?_
  refine lv_bipush (v := 20) hx hb d_Mo_init_175 (by decide) ?_
  refine r_newI C K S hA 20 (by decide) (by decide) (by decide) (Nat.le_of_ble_eq_true rfl) (Nat.le_of_ble_eq_true rfl) d_Mo_init_177 (fun q20 H S => ?_)
  have S : Sw G A s.heap _ _ [(h0, .inr (8, [.int 0, .ref q1, .ref q2, .ref q3, .int (-2), .ref q4, .ref q5, .ref q6, .ref q7, .int 0, .long 0, .int (-2), .int 0, .ref q8, .ref q9, .ref q10, .ref q11, .ref q12, .int 0, .ref q13, .int 0, .int 0, .int 0, .int 0, .int 0, .int 0, .int 0, .ref q14, .int 0, .int 0, .int 0, .int 0, .ref q15, .ref q16, .int 0, .ref q17, .ref q18, .ref q19, .null, .null, .int 0, .null, .null, .null, .null, .null, .null, .null, .int 0, .int 0, .int 0, .int 0, .int 0, .int 0, .int 0, .null, .null, .int 0, .int 0, .int 0, .int 0])), (q1, .inl (k 0, 4, .inl (fun _ => 0))), (q2, .inl (k 0, 800, .inl (fun _ => 0))), (q3, .inl (k 0, 4, .inl (fun _ => 0))), (q4, .inl (k 0, 800, .inl (fun _ => 0))), (q5, .inl (k 0, 20, .inl (fun _ => 0))), (q6, .inl (k 0, 20, .inl (fun _ => 0))), (q7, .inl (k 0, 20, .inl (fun _ => 0))), (q8, .inl (k 0, 1200, .inl (fun _ => 0))), (q9, .inl (k 0, 1200, .inl (fun _ => 0))), (q10, .inl (k 0, 1200, .inl (fun _ => 0))), (q11, .inl (k 0, 1200, .inl (fun _ => 0))), (q12, .inl (k 0, 1200, .inl (fun _ => 0))), (q13, .inl (k 0, 1400, .inl (fun _ => 0))), (q14, .inl (k 1, 36982, .inr (.inl (fun _ => 0)))), (q15, .inl (k 0, 4, .inl (fun _ => 0))), (q16, .inl (k 1, 3690, .inr (.inl (fun _ => 0)))), (q17, .inl (k 0, 20, .inl (fun _ => 0))), (q18, .inl (k 0, 20, .inl (fun _ => 0))), (q19, .inl (k 0, 20, .inl (fun _ => 0))), (q20, .inl (k 0, 20, .inl (fun _ => 0)))] := S
  refine r_putF C K S 0 rfl rfl clOk_Mo 38 (by decide) wf_Mo_76 rfl rfl (ty := .array .int) (v := .ref q20) (by decide +kernel) rfl rfl (Nat.le_of_ble_eq_true rfl) (fs' := [.int 0, .ref q1, .ref q2, .ref q3, .int (-2), .ref q4, .ref q5, .ref q6, .ref q7, .int 0, .long 0, .int (-2), .int 0, .ref q8, .ref q9, .ref q10, .ref q11, .ref q12, .int 0, .ref q13, .int 0, .int 0, .int 0, .int 0, .int 0, .int 0, .int 0, .ref q14, .int 0, .int 0, .int 0, .int 0, .ref q15, .ref q16, .int 0, .ref q17, .ref q18, .ref q19, .ref q20, .null, .int 0, .null, .null, .null, .null, .null, .null, .null, .int 0, .int 0, .int 0, .int 0, .int 0, .int 0, .int 0, .null, .null, .int 0, .int 0, .int 0, .int 0]) (ws' := [(h0, .inr (8, [.int 0, .ref q1, .ref q2, .ref q3, .int (-2), .ref q4, .ref q5, .ref q6, .ref q7, .int 0, .long 0, .int (-2), .int 0, .ref q8, .ref q9, .ref q10, .ref q11, .ref q12, .int 0, .ref q13, .int 0, .int 0, .int 0, .int 0, .int 0, .int 0, .int 0, .ref q14, .int 0, .int 0, .int 0, .int 0, .ref q15, .ref q16, .int 0, .ref q17, .ref q18, .ref q19, .ref q20, .null, .int 0, .null, .null, .null, .null, .null, .null, .null, .int 0, .int 0, .int 0, .int 0, .int 0, .int 0, .int 0, .null, .null, .int 0, .int 0, .int 0, .int 0])), (q1, .inl (k 0, 4, .inl (fun _ => 0))), (q2, .inl (k 0, 800, .inl (fun _ => 0))), (q3, .inl (k 0, 4, .inl (fun _ => 0))), (q4, .inl (k 0, 800, .inl (fun _ => 0))), (q5, .inl (k 0, 20, .inl (fun _ => 0))), (q6, .inl (k 0, 20, .inl (fun _ => 0))), (q7, .inl (k 0, 20, .inl (fun _ => 0))), (q8, .inl (k 0, 1200, .inl (fun _ => 0))), (q9, .inl (k 0, 1200, .inl (fun _ => 0))), (q10, .inl (k 0, 1200, .inl (fun _ => 0))), (q11, .inl (k 0, 1200, .inl (fun _ => 0))), (q12, .inl (k 0, 1200, .inl (fun _ => 0))), (q13, .inl (k 0, 1400, .inl (fun _ => 0))), (q14, .inl (k 1, 36982, .inr (.inl (fun _ => 0)))), (q15, .inl (k 0, 4, .inl (fun _ => 0))), (q16, .inl (k 1, 3690, .inr (.inl (fun _ => 0)))), (q17, .inl (k 0, 20, .inl (fun _ => 0))), (q18, .inl (k 0, 20, .inl (fun _ => 0))), (q19, .inl (k 0, 20, .inl (fun _ => 0))), (q20, .inl (k 0, 20, .inl (fun _ => 0)))]) rfl rfl d_Mo_init_179 (fun H locs S => ?_)
  refine lv_aload_n hx hb d_Mo_init_182 rfl (lv_at hl 0 rfl) ?_
  refine lv_bipush (v := 20) hx hb d_Mo_init_183 (by decide) ?_
  refine r_newI C K S hA 20 (by decide) (by decide) (by decide) (Nat.le_of_ble_eq_true rfl) (Nat.le_of_ble_eq_true rfl) d_Mo_init_185 (fun q21 H S => ?_)
  have S : Sw G A s.heap _ _ [(h0, .inr (8, [.int 0, .ref q1, .ref q2, .ref q3, .int (-2), .ref q4, .ref q5, .ref q6, .ref q7, .int 0, .long 0, .int (-2), .int 0, .ref q8, .ref q9, .ref q10, .ref q11, .ref q12, .int 0, .ref q13, .int 0, .int 0, .int 0, .int 0, .int 0, .int 0, .int 0, .ref q14, .int 0, .int 0, .int 0, .int 0, .ref q15, .ref q16, .int 0, .ref q17, .ref q18, .ref q19, .ref q20, .null, .int 0, .null, .null, .null, .null, .null, .null, .null, .int 0, .int 0, .int 0, .int 0, .int 0, .int 0, .int 0, .null, .null, .int 0, .int 0, .int 0, .int 0])), (q1, .inl (k 0, 4, .inl (fun _ => 0))), (q2, .inl (k 0, 800, .inl (fun _ => 0))), (q3, .inl (k 0, 4, .inl (fun _ => 0))), (q4, .inl (k 0, 800, .inl (fun _ => 0))), (q5, .inl (k 0, 20, .inl (fun _ => 0))), (q6, .inl (k 0, 20, .inl (fun _ => 0))), (q7, .inl (k 0, 20, .inl (fun _ => 0))), (q8, .inl (k 0, 1200, .inl (fun _ => 0))), (q9, .inl (k 0, 1200, .inl (fun _ => 0))), (q10, .inl (k 0, 1200, .inl (fun _ => 0))), (q11, .inl (k 0, 1200, .inl (fun _ => 0))), (q12, .inl (k 0, 1200, .inl (fun _ => 0))), (q13, .inl (k 0, 1400, .inl (fun _ => 0))), (q14, .inl (k 1, 36982, .inr (.inl (fun _ => 0)))), (q15, .inl (k 0, 4, .inl (fun _ => 0))), (q16, .inl (k 1, 3690, .inr (.inl (fun _ => 0)))), (q17, .inl (k 0, 20, .inl (fun _ => 0))), (q18, .inl (k 0, 20, .inl (fun _ => 0))), (q19, .inl (k 0, 20, .inl (fun _ => 0))), (q20, .inl (k 0, 20, .inl (fun _ => 0))), (q21, .inl (k 0, 20, .inl (fun _ => 0)))] := S
  refine r_putF C K S 0 rfl rfl clOk_Mo 39 (by decide) wf_Mo_79 rfl rfl (ty := .array .int) (v := .ref q21) (by decide +kernel) rfl rfl (Nat.le_of_ble_eq_true rfl) (fs' := [.int 0, .ref q1, .ref q2, .ref q3, .int (-2), .ref q4, .ref q5, .ref q6, .ref q7, .int 0, .long 0, .int (-2), .int 0, .ref q8, .ref q9, .ref q10, .ref q11, .ref q12, .int 0, .ref q13, .int 0, .int 0, .int 0, .int 0, .int 0, .int 0, .int 0, .ref q14, .int 0, .int 0, .int 0, .int 0, .ref q15, .ref q16, .int 0, .ref q17, .ref q18, .ref q19, .ref q20, .ref q21, .int 0, .null, .null, .null, .null, .null, .null, .null, .int 0, .int 0, .int 0, .int 0, .int 0, .int 0, .int 0, .null, .null, .int 0, .int 0, .int 0, .int 0]) (ws' := [(h0, .inr (8, [.int 0, .ref q1, .ref q2, .ref q3, .int (-2), .ref q4, .ref q5, .ref q6, .ref q7, .int 0, .long 0, .int (-2), .int 0, .ref q8, .ref q9, .ref q10, .ref q11, .ref q12, .int 0, .ref q13, .int 0, .int 0, .int 0, .int 0, .int 0, .int 0, .int 0, .ref q14, .int 0, .int 0, .int 0, .int 0, .ref q15, .ref q16, .int 0, .ref q17, .ref q18, .ref q19, .ref q20, .ref q21, .int 0, .null, .null, .null, .null, .null, .null, .null, .int 0, .int 0, .int 0, .int 0, .int 0, .int 0, .int 0, .null, .null, .int 0, .int 0, .int 0, .int 0])), (q1, .inl (k 0, 4, .inl (fun _ => 0))), (q2, .inl (k 0, 800, .inl (fun _ => 0))), (q3, .inl (k 0, 4, .inl (fun _ => 0))), (q4, .inl (k 0, 800, .inl (fun _ => 0))), (q5, .inl (k 0, 20, .inl (fun _ => 0))), (q6, .inl (k 0, 20, .inl (fun _ => 0))), (q7, .inl (k 0, 20, .inl (fun _ => 0))), (q8, .inl (k 0, 1200, .inl (fun _ => 0))), (q9, .inl (k 0, 1200, .inl (fun _ => 0))), (q10, .inl (k 0, 1200, .inl (fun _ => 0))), (q11, .inl (k 0, 1200, .inl (fun _ => 0))), (q12, .inl (k 0, 1200, .inl (fun _ => 0))), (q13, .inl (k 0, 1400, .inl (fun _ => 0))), (q14, .inl (k 1, 36982, .inr (.inl (fun _ => 0)))), (q15, .inl (k 0, 4, .inl (fun _ => 0))), (q16, .inl (k 1, 3690, .inr (.inl (fun _ => 0)))), (q17, .inl (k 0, 20, .inl (fun _ => 0))), (q18, .inl (k 0, 20, .inl (fun _ => 0))), (q19, .inl (k 0, 20, .inl (fun _ => 0))), (q20, .inl (k 0, 20, .inl (fun _ => 0))), (q21, .inl (k 0, 20, .inl (fun _ => 0)))]) rfl rfl d_Mo_init_187 (fun H locs S => ?_)
  refine lv_aload_n hx hb d_Mo_init_190 rfl (lv_at hl 0 rfl) ?_
  refine lv_ldc (v := 319840) hx hb C.2.2.2.1 (C.2.2.2.2.1 _ wk_Mo_82) d_Mo_init_191 ?_
  refine r_newI C K S hA 319840 (by decide) (by decide) (by decide) (Nat.le_of_ble_eq_true rfl) (Nat.le_of_ble_eq_true rfl) d_Mo_init_193 (fun q22 H S => ?_)
  have S : Sw G A s.heap _ _ [(h0, .inr (8, [.int 0, .ref q1, .ref q2, .ref q3, .int (-2), .ref q4, .ref q5, .ref q6, .ref q7, .int 0, .long 0, .int (-2), .int 0, .ref q8, .ref q9, .ref q10, .ref q11, .ref q12, .int 0, .ref q13, .int 0, .int 0, .int 0, .int 0, .int 0, .int 0, .int 0, .ref q14, .int 0, .int 0, .int 0, .int 0, .ref q15, .ref q16, .int 0, .ref q17, .ref q18, .ref q19, .ref q20, .ref q21, .int 0, .null, .null, .null, .null, .null, .null, .null, .int 0, .int 0, .int 0, .int 0, .int 0, .int 0, .int 0, .null, .null, .int 0, .int 0, .int 0, .int 0])), (q1, .inl (k 0, 4, .inl (fun _ => 0))), (q2, .inl (k 0, 800, .inl (fun _ => 0))), (q3, .inl (k 0, 4, .inl (fun _ => 0))), (q4, .inl (k 0, 800, .inl (fun _ => 0))), (q5, .inl (k 0, 20, .inl (fun _ => 0))), (q6, .inl (k 0, 20, .inl (fun _ => 0))), (q7, .inl (k 0, 20, .inl (fun _ => 0))), (q8, .inl (k 0, 1200, .inl (fun _ => 0))), (q9, .inl (k 0, 1200, .inl (fun _ => 0))), (q10, .inl (k 0, 1200, .inl (fun _ => 0))), (q11, .inl (k 0, 1200, .inl (fun _ => 0))), (q12, .inl (k 0, 1200, .inl (fun _ => 0))), (q13, .inl (k 0, 1400, .inl (fun _ => 0))), (q14, .inl (k 1, 36982, .inr (.inl (fun _ => 0)))), (q15, .inl (k 0, 4, .inl (fun _ => 0))), (q16, .inl (k 1, 3690, .inr (.inl (fun _ => 0)))), (q17, .inl (k 0, 20, .inl (fun _ => 0))), (q18, .inl (k 0, 20, .inl (fun _ => 0))), (q19, .inl (k 0, 20, .inl (fun _ => 0))), (q20, .inl (k 0, 20, .inl (fun _ => 0))), (q21, .inl (k 0, 20, .inl (fun _ => 0))), (q22, .inl (k 0, 319840, .inl (fun _ => 0)))] := S
  refine r_putF C K S 0 rfl rfl clOk_Mo 41 (by decide) wf_Mo_83 rfl rfl (ty := .array .int) (v := .ref q22) (by decide +kernel) rfl rfl (Nat.le_of_ble_eq_true rfl) (fs' := [.int 0, .ref q1, .ref q2, .ref q3, .int (-2), .ref q4, .ref q5, .ref q6, .ref q7, .int 0, .long 0, .int (-2), .int 0, .ref q8, .ref q9, .ref q10, .ref q11, .ref q12, .int 0, .ref q13, .int 0, .int 0, .int 0, .int 0, .int 0, .int 0, .int 0, .ref q14, .int 0, .int 0, .int 0, .int 0, .ref q15, .ref q16, .int 0, .ref q17, .ref q18, .ref q19, .ref q20, .ref q21, .int 0, .ref q22, .null, .null, .null, .null, .null, .null, .int 0, .int 0, .int 0, .int 0, .int 0, .int 0, .int 0, .null, .null, .int 0, .int 0, .int 0, .int 0]) (ws' := [(h0, .inr (8, [.int 0, .ref q1, .ref q2, .ref q3, .int (-2), .ref q4, .ref q5, .ref q6, .ref q7, .int 0, .long 0, .int (-2), .int 0, .ref q8, .ref q9, .ref q10, .ref q11, .ref q12, .int 0, .ref q13, .int 0, .int 0, .int 0, .int 0, .int 0, .int 0, .int 0, .ref q14, .int 0, .int 0, .int 0, .int 0, .ref q15, .ref q16, .int 0, .ref q17, .ref q18, .ref q19, .ref q20, .ref q21, .int 0, .ref q22, .null, .null, .null, .null, .null, .null, .int 0, .int 0, .int 0, .int 0, .int 0, .int 0, .int 0, .null, .null, .int 0, .int 0, .int 0, .int 0])), (q1, .inl (k 0, 4, .inl (fun _ => 0))), (q2, .inl (k 0, 800, .inl (fun _ => 0))), (q3, .inl (k 0, 4, .inl (fun _ => 0))), (q4, .inl (k 0, 800, .inl (fun _ => 0))), (q5, .inl (k 0, 20, .inl (fun _ => 0))), (q6, .inl (k 0, 20, .inl (fun _ => 0))), (q7, .inl (k 0, 20, .inl (fun _ => 0))), (q8, .inl (k 0, 1200, .inl (fun _ => 0))), (q9, .inl (k 0, 1200, .inl (fun _ => 0))), (q10, .inl (k 0, 1200, .inl (fun _ => 0))), (q11, .inl (k 0, 1200, .inl (fun _ => 0))), (q12, .inl (k 0, 1200, .inl (fun _ => 0))), (q13, .inl (k 0, 1400, .inl (fun _ => 0))), (q14, .inl (k 1, 36982, .inr (.inl (fun _ => 0)))), (q15, .inl (k 0, 4, .inl (fun _ => 0))), (q16, .inl (k 1, 3690, .inr (.inl (fun _ => 0)))), (q17, .inl (k 0, 20, .inl (fun _ => 0))), (q18, .inl (k 0, 20, .inl (fun _ => 0))), (q19, .inl (k 0, 20, .inl (fun _ => 0))), (q20, .inl (k 0, 20, .inl (fun _ => 0))), (q21, .inl (k 0, 20, .inl (fun _ => 0))), (q22, .inl (k 0, 319840, .inl (fun _ => 0)))]) rfl rfl d_Mo_init_195 (fun H locs S => ?_)
  refine lv_aload_n hx hb d_Mo_init_198 rfl (lv_at hl 0 rfl) ?_
  refine lv_sipush (v := 3998) hx hb d_Mo_init_199 (by decide) ?_
  refine r_newI C K S hA 3998 (by decide) (by decide) (by decide) (Nat.le_of_ble_eq_true rfl) (Nat.le_of_ble_eq_true rfl) d_Mo_init_202 (fun q23 H S => ?_)
  have S : Sw G A s.heap _ _ [(h0, .inr (8, [.int 0, .ref q1, .ref q2, .ref q3, .int (-2), .ref q4, .ref q5, .ref q6, .ref q7, .int 0, .long 0, .int (-2), .int 0, .ref q8, .ref q9, .ref q10, .ref q11, .ref q12, .int 0, .ref q13, .int 0, .int 0, .int 0, .int 0, .int 0, .int 0, .int 0, .ref q14, .int 0, .int 0, .int 0, .int 0, .ref q15, .ref q16, .int 0, .ref q17, .ref q18, .ref q19, .ref q20, .ref q21, .int 0, .ref q22, .null, .null, .null, .null, .null, .null, .int 0, .int 0, .int 0, .int 0, .int 0, .int 0, .int 0, .null, .null, .int 0, .int 0, .int 0, .int 0])), (q1, .inl (k 0, 4, .inl (fun _ => 0))), (q2, .inl (k 0, 800, .inl (fun _ => 0))), (q3, .inl (k 0, 4, .inl (fun _ => 0))), (q4, .inl (k 0, 800, .inl (fun _ => 0))), (q5, .inl (k 0, 20, .inl (fun _ => 0))), (q6, .inl (k 0, 20, .inl (fun _ => 0))), (q7, .inl (k 0, 20, .inl (fun _ => 0))), (q8, .inl (k 0, 1200, .inl (fun _ => 0))), (q9, .inl (k 0, 1200, .inl (fun _ => 0))), (q10, .inl (k 0, 1200, .inl (fun _ => 0))), (q11, .inl (k 0, 1200, .inl (fun _ => 0))), (q12, .inl (k 0, 1200, .inl (fun _ => 0))), (q13, .inl (k 0, 1400, .inl (fun _ => 0))), (q14, .inl (k 1, 36982, .inr (.inl (fun _ => 0)))), (q15, .inl (k 0, 4, .inl (fun _ => 0))), (q16, .inl (k 1, 3690, .inr (.inl (fun _ => 0)))), (q17, .inl (k 0, 20, .inl (fun _ => 0))), (q18, .inl (k 0, 20, .inl (fun _ => 0))), (q19, .inl (k 0, 20, .inl (fun _ => 0))), (q20, .inl (k 0, 20, .inl (fun _ => 0))), (q21, .inl (k 0, 20, .inl (fun _ => 0))), (q22, .inl (k 0, 319840, .inl (fun _ => 0))), (q23, .inl (k 0, 3998, .inl (fun _ => 0)))] := S
  refine r_putF C K S 0 rfl rfl clOk_Mo 42 (by decide) wf_Mo_86 rfl rfl (ty := .array .int) (v := .ref q23) (by decide +kernel) rfl rfl (Nat.le_of_ble_eq_true rfl) (fs' := [.int 0, .ref q1, .ref q2, .ref q3, .int (-2), .ref q4, .ref q5, .ref q6, .ref q7, .int 0, .long 0, .int (-2), .int 0, .ref q8, .ref q9, .ref q10, .ref q11, .ref q12, .int 0, .ref q13, .int 0, .int 0, .int 0, .int 0, .int 0, .int 0, .int 0, .ref q14, .int 0, .int 0, .int 0, .int 0, .ref q15, .ref q16, .int 0, .ref q17, .ref q18, .ref q19, .ref q20, .ref q21, .int 0, .ref q22, .ref q23, .null, .null, .null, .null, .null, .int 0, .int 0, .int 0, .int 0, .int 0, .int 0, .int 0, .null, .null, .int 0, .int 0, .int 0, .int 0]) (ws' := [(h0, .inr (8, [.int 0, .ref q1, .ref q2, .ref q3, .int (-2), .ref q4, .ref q5, .ref q6, .ref q7, .int 0, .long 0, .int (-2), .int 0, .ref q8, .ref q9, .ref q10, .ref q11, .ref q12, .int 0, .ref q13, .int 0, .int 0, .int 0, .int 0, .int 0, .int 0, .int 0, .ref q14, .int 0, .int 0, .int 0, .int 0, .ref q15, .ref q16, .int 0, .ref q17, .ref q18, .ref q19, .ref q20, .ref q21, .int 0, .ref q22, .ref q23, .null, .null, .null, .null, .null, .int 0, .int 0, .int 0, .int 0, .int 0, .int 0, .int 0, .null, .null, .int 0, .int 0, .int 0, .int 0])), (q1, .inl (k 0, 4, .inl (fun _ => 0))), (q2, .inl (k 0, 800, .inl (fun _ => 0))), (q3, .inl (k 0, 4, .inl (fun _ => 0))), (q4, .inl (k 0, 800, .inl (fun _ => 0))), (q5, .inl (k 0, 20, .inl (fun _ => 0))), (q6, .inl (k 0, 20, .inl (fun _ => 0))), (q7, .inl (k 0, 20, .inl (fun _ => 0))), (q8, .inl (k 0, 1200, .inl (fun _ => 0))), (q9, .inl (k 0, 1200, .inl (fun _ => 0))), (q10, .inl (k 0, 1200, .inl (fun _ => 0))), (q11, .inl (k 0, 1200, .inl (fun _ => 0))), (q12, .inl (k 0, 1200, .inl (fun _ => 0))), (q13, .inl (k 0, 1400, .inl (fun _ => 0))), (q14, .inl (k 1, 36982, .inr (.inl (fun _ => 0)))), (q15, .inl (k 0, 4, .inl (fun _ => 0))), (q16, .inl (k 1, 3690, .inr (.inl (fun _ => 0)))), (q17, .inl (k 0, 20, .inl (fun _ => 0))), (q18, .inl (k 0, 20, .inl (fun _ => 0))), (q19, .inl (k 0, 20, .inl (fun _ => 0))), (q20, .inl (k 0, 20, .inl (fun _ => 0))), (q21, .inl (k 0, 20, .inl (fun _ => 0))), (q22, .inl (k 0, 319840, .inl (fun _ => 0))), (q23, .inl (k 0, 3998, .inl (fun _ => 0)))]) rfl rfl d_Mo_init_204 (fun H locs S => ?_)
  refine lv_aload_n hx hb d_Mo_init_207 rfl (lv_at hl 0 rfl) ?_
  refine lv_sipush (v := 3998) hx hb d_Mo_init_208 (by decide) ?_
  refine r_newZ C K S hA 3998 (by decide) (by decide) (by decide) (Nat.le_of_ble_eq_true rfl) (Nat.le_of_ble_eq_true rfl) d_Mo_init_211 (fun q24 H S => ?_)
  have S : Sw G A s.heap _ _ [(h0, .inr (8, [.int 0, .ref q1, .ref q2, .ref q3, .int (-2), .ref q4, .ref q5, .ref q6, .ref q7, .int 0, .long 0, .int (-2), .int 0, .ref q8, .ref q9, .ref q10, .ref q11, .ref q12, .int 0, .ref q13, .int 0, .int 0, .int 0, .int 0, .int 0, .int 0, .int 0, .ref q14, .int 0, .int 0, .int 0, .int 0, .ref q15, .ref q16, .int 0, .ref q17, .ref q18, .ref q19, .ref q20, .ref q21, .int 0, .ref q22, .ref q23, .null, .null, .null, .null, .null, .int 0, .int 0, .int 0, .int 0, .int 0, .int 0, .int 0, .null, .null, .int 0, .int 0, .int 0, .int 0])), (q1, .inl (k 0, 4, .inl (fun _ => 0))), (q2, .inl (k 0, 800, .inl (fun _ => 0))), (q3, .inl (k 0, 4, .inl (fun _ => 0))), (q4, .inl (k 0, 800, .inl (fun _ => 0))), (q5, .inl (k 0, 20, .inl (fun _ => 0))), (q6, .inl (k 0, 20, .inl (fun _ => 0))), (q7, .inl (k 0, 20, .inl (fun _ => 0))), (q8, .inl (k 0, 1200, .inl (fun _ => 0))), (q9, .inl (k 0, 1200, .inl (fun _ => 0))), (q10, .inl (k 0, 1200, .inl (fun _ => 0))), (q11, .inl (k 0, 1200, .inl (fun _ => 0))), (q12, .inl (k 0, 1200, .inl (fun _ => 0))), (q13, .inl (k 0, 1400, .inl (fun _ => 0))), (q14, .inl (k 1, 36982, .inr (.inl (fun _ => 0)))), (q15, .inl (k 0, 4, .inl (fun _ => 0))), (q16, .inl (k 1, 3690, .inr (.inl (fun _ => 0)))), (q17, .inl (k 0, 20, .inl (fun _ => 0))), (q18, .inl (k 0, 20, .inl (fun _ => 0))), (q19, .inl (k 0, 20, .inl (fun _ => 0))), (q20, .inl (k 0, 20, .inl (fun _ => 0))), (q21, .inl (k 0, 20, .inl (fun _ => 0))), (q22, .inl (k 0, 319840, .inl (fun _ => 0))), (q23, .inl (k 0, 3998, .inl (fun _ => 0))), (q24, .inl (k 2, 3998, .inl (fun _ => 0)))] := S
  refine r_putF C K S 0 rfl rfl clOk_Mo 43 (by decide) wf_Mo_89 rfl rfl (ty := .array .boolean) (v := .ref q24) (by decide +kernel) rfl rfl (Nat.le_of_ble_eq_true rfl) (fs' := [.int 0, .ref q1, .ref q2, .ref q3, .int (-2), .ref q4, .ref q5, .ref q6, .ref q7, .int 0, .long 0, .int (-2), .int 0, .ref q8, .ref q9, .ref q10, .ref q11, .ref q12, .int 0, .ref q13, .int 0, .int 0, .int 0, .int 0, .int 0, .int 0, .int 0, .ref q14, .int 0, .int 0, .int 0, .int 0, .ref q15, .ref q16, .int 0, .ref q17, .ref q18, .ref q19, .ref q20, .ref q21, .int 0, .ref q22, .ref q23, .ref q24, .null, .null, .null, .null, .int 0, .int 0, .int 0, .int 0, .int 0, .int 0, .int 0, .null, .null, .int 0, .int 0, .int 0, .int 0]) (ws' := [(h0, .inr (8, [.int 0, .ref q1, .ref q2, .ref q3, .int (-2), .ref q4, .ref q5, .ref q6, .ref q7, .int 0, .long 0, .int (-2), .int 0, .ref q8, .ref q9, .ref q10, .ref q11, .ref q12, .int 0, .ref q13, .int 0, .int 0, .int 0, .int 0, .int 0, .int 0, .int 0, .ref q14, .int 0, .int 0, .int 0, .int 0, .ref q15, .ref q16, .int 0, .ref q17, .ref q18, .ref q19, .ref q20, .ref q21, .int 0, .ref q22, .ref q23, .ref q24, .null, .null, .null, .null, .int 0, .int 0, .int 0, .int 0, .int 0, .int 0, .int 0, .null, .null, .int 0, .int 0, .int 0, .int 0])), (q1, .inl (k 0, 4, .inl (fun _ => 0))), (q2, .inl (k 0, 800, .inl (fun _ => 0))), (q3, .inl (k 0, 4, .inl (fun _ => 0))), (q4, .inl (k 0, 800, .inl (fun _ => 0))), (q5, .inl (k 0, 20, .inl (fun _ => 0))), (q6, .inl (k 0, 20, .inl (fun _ => 0))), (q7, .inl (k 0, 20, .inl (fun _ => 0))), (q8, .inl (k 0, 1200, .inl (fun _ => 0))), (q9, .inl (k 0, 1200, .inl (fun _ => 0))), (q10, .inl (k 0, 1200, .inl (fun _ => 0))), (q11, .inl (k 0, 1200, .inl (fun _ => 0))), (q12, .inl (k 0, 1200, .inl (fun _ => 0))), (q13, .inl (k 0, 1400, .inl (fun _ => 0))), (q14, .inl (k 1, 36982, .inr (.inl (fun _ => 0)))), (q15, .inl (k 0, 4, .inl (fun _ => 0))), (q16, .inl (k 1, 3690, .inr (.inl (fun _ => 0)))), (q17, .inl (k 0, 20, .inl (fun _ => 0))), (q18, .inl (k 0, 20, .inl (fun _ => 0))), (q19, .inl (k 0, 20, .inl (fun _ => 0))), (q20, .inl (k 0, 20, .inl (fun _ => 0))), (q21, .inl (k 0, 20, .inl (fun _ => 0))), (q22, .inl (k 0, 319840, .inl (fun _ => 0))), (q23, .inl (k 0, 3998, .inl (fun _ => 0))), (q24, .inl (k 2, 3998, .inl (fun _ => 0)))]) rfl rfl d_Mo_init_213 (fun H locs S => ?_)
  refine lv_aload_n hx hb d_Mo_init_216 rfl (lv_at hl 0 rfl) ?_
  refine lv_sipush (v := 170) hx hb d_Mo_init_217 (by decide) ?_
  refine r_newI C K S hA 170 (by decide) (by decide) (by decide) (Nat.le_of_ble_eq_true rfl) (Nat.le_of_ble_eq_true rfl) d_Mo_init_220 (fun q25 H S => ?_)
  have S : Sw G A s.heap _ _ [(h0, .inr (8, [.int 0, .ref q1, .ref q2, .ref q3, .int (-2), .ref q4, .ref q5, .ref q6, .ref q7, .int 0, .long 0, .int (-2), .int 0, .ref q8, .ref q9, .ref q10, .ref q11, .ref q12, .int 0, .ref q13, .int 0, .int 0, .int 0, .int 0, .int 0, .int 0, .int 0, .ref q14, .int 0, .int 0, .int 0, .int 0, .ref q15, .ref q16, .int 0, .ref q17, .ref q18, .ref q19, .ref q20, .ref q21, .int 0, .ref q22, .ref q23, .ref q24, .null, .null, .null, .null, .int 0, .int 0, .int 0, .int 0, .int 0, .int 0, .int 0, .null, .null, .int 0, .int 0, .int 0, .int 0])), (q1, .inl (k 0, 4, .inl (fun _ => 0))), (q2, .inl (k 0, 800, .inl (fun _ => 0))), (q3, .inl (k 0, 4, .inl (fun _ => 0))), (q4, .inl (k 0, 800, .inl (fun _ => 0))), (q5, .inl (k 0, 20, .inl (fun _ => 0))), (q6, .inl (k 0, 20, .inl (fun _ => 0))), (q7, .inl (k 0, 20, .inl (fun _ => 0))), (q8, .inl (k 0, 1200, .inl (fun _ => 0))), (q9, .inl (k 0, 1200, .inl (fun _ => 0))), (q10, .inl (k 0, 1200, .inl (fun _ => 0))), (q11, .inl (k 0, 1200, .inl (fun _ => 0))), (q12, .inl (k 0, 1200, .inl (fun _ => 0))), (q13, .inl (k 0, 1400, .inl (fun _ => 0))), (q14, .inl (k 1, 36982, .inr (.inl (fun _ => 0)))), (q15, .inl (k 0, 4, .inl (fun _ => 0))), (q16, .inl (k 1, 3690, .inr (.inl (fun _ => 0)))), (q17, .inl (k 0, 20, .inl (fun _ => 0))), (q18, .inl (k 0, 20, .inl (fun _ => 0))), (q19, .inl (k 0, 20, .inl (fun _ => 0))), (q20, .inl (k 0, 20, .inl (fun _ => 0))), (q21, .inl (k 0, 20, .inl (fun _ => 0))), (q22, .inl (k 0, 319840, .inl (fun _ => 0))), (q23, .inl (k 0, 3998, .inl (fun _ => 0))), (q24, .inl (k 2, 3998, .inl (fun _ => 0))), (q25, .inl (k 0, 170, .inl (fun _ => 0)))] := S
  refine r_putF C K S 0 rfl rfl clOk_Mo 44 (by decide) wf_Mo_93 rfl rfl (ty := .array .int) (v := .ref q25) (by decide +kernel) rfl rfl (Nat.le_of_ble_eq_true rfl) (fs' := [.int 0, .ref q1, .ref q2, .ref q3, .int (-2), .ref q4, .ref q5, .ref q6, .ref q7, .int 0, .long 0, .int (-2), .int 0, .ref q8, .ref q9, .ref q10, .ref q11, .ref q12, .int 0, .ref q13, .int 0, .int 0, .int 0, .int 0, .int 0, .int 0, .int 0, .ref q14, .int 0, .int 0, .int 0, .int 0, .ref q15, .ref q16, .int 0, .ref q17, .ref q18, .ref q19, .ref q20, .ref q21, .int 0, .ref q22, .ref q23, .ref q24, .ref q25, .null, .null, .null, .int 0, .int 0, .int 0, .int 0, .int 0, .int 0, .int 0, .null, .null, .int 0, .int 0, .int 0, .int 0]) (ws' := [(h0, .inr (8, [.int 0, .ref q1, .ref q2, .ref q3, .int (-2), .ref q4, .ref q5, .ref q6, .ref q7, .int 0, .long 0, .int (-2), .int 0, .ref q8, .ref q9, .ref q10, .ref q11, .ref q12, .int 0, .ref q13, .int 0, .int 0, .int 0, .int 0, .int 0, .int 0, .int 0, .ref q14, .int 0, .int 0, .int 0, .int 0, .ref q15, .ref q16, .int 0, .ref q17, .ref q18, .ref q19, .ref q20, .ref q21, .int 0, .ref q22, .ref q23, .ref q24, .ref q25, .null, .null, .null, .int 0, .int 0, .int 0, .int 0, .int 0, .int 0, .int 0, .null, .null, .int 0, .int 0, .int 0, .int 0])), (q1, .inl (k 0, 4, .inl (fun _ => 0))), (q2, .inl (k 0, 800, .inl (fun _ => 0))), (q3, .inl (k 0, 4, .inl (fun _ => 0))), (q4, .inl (k 0, 800, .inl (fun _ => 0))), (q5, .inl (k 0, 20, .inl (fun _ => 0))), (q6, .inl (k 0, 20, .inl (fun _ => 0))), (q7, .inl (k 0, 20, .inl (fun _ => 0))), (q8, .inl (k 0, 1200, .inl (fun _ => 0))), (q9, .inl (k 0, 1200, .inl (fun _ => 0))), (q10, .inl (k 0, 1200, .inl (fun _ => 0))), (q11, .inl (k 0, 1200, .inl (fun _ => 0))), (q12, .inl (k 0, 1200, .inl (fun _ => 0))), (q13, .inl (k 0, 1400, .inl (fun _ => 0))), (q14, .inl (k 1, 36982, .inr (.inl (fun _ => 0)))), (q15, .inl (k 0, 4, .inl (fun _ => 0))), (q16, .inl (k 1, 3690, .inr (.inl (fun _ => 0)))), (q17, .inl (k 0, 20, .inl (fun _ => 0))), (q18, .inl (k 0, 20, .inl (fun _ => 0))), (q19, .inl (k 0, 20, .inl (fun _ => 0))), (q20, .inl (k 0, 20, .inl (fun _ => 0))), (q21, .inl (k 0, 20, .inl (fun _ => 0))), (q22, .inl (k 0, 319840, .inl (fun _ => 0))), (q23, .inl (k 0, 3998, .inl (fun _ => 0))), (q24, .inl (k 2, 3998, .inl (fun _ => 0))), (q25, .inl (k 0, 170, .inl (fun _ => 0)))]) rfl rfl d_Mo_init_222 (fun H locs S => ?_)
  refine lv_aload_n hx hb d_Mo_init_225 rfl (lv_at hl 0 rfl) ?_
  refine lv_sipush (v := 170) hx hb d_Mo_init_226 (by decide) ?_
  refine r_newI C K S hA 170 (by decide) (by decide) (by decide) (Nat.le_of_ble_eq_true rfl) (Nat.le_of_ble_eq_true rfl) d_Mo_init_229 (fun q26 H S => ?_)
  have S : Sw G A s.heap _ _ [(h0, .inr (8, [.int 0, .ref q1, .ref q2, .ref q3, .int (-2), .ref q4, .ref q5, .ref q6, .ref q7, .int 0, .long 0, .int (-2), .int 0, .ref q8, .ref q9, .ref q10, .ref q11, .ref q12, .int 0, .ref q13, .int 0, .int 0, .int 0, .int 0, .int 0, .int 0, .int 0, .ref q14, .int 0, .int 0, .int 0, .int 0, .ref q15, .ref q16, .int 0, .ref q17, .ref q18, .ref q19, .ref q20, .ref q21, .int 0, .ref q22, .ref q23, .ref q24, .ref q25, .null, .null, .null, .int 0, .int 0, .int 0, .int 0, .int 0, .int 0, .int 0, .null, .null, .int 0, .int 0, .int 0, .int 0])), (q1, .inl (k 0, 4, .inl (fun _ => 0))), (q2, .inl (k 0, 800, .inl (fun _ => 0))), (q3, .inl (k 0, 4, .inl (fun _ => 0))), (q4, .inl (k 0, 800, .inl (fun _ => 0))), (q5, .inl (k 0, 20, .inl (fun _ => 0))), (q6, .inl (k 0, 20, .inl (fun _ => 0))), (q7, .inl (k 0, 20, .inl (fun _ => 0))), (q8, .inl (k 0, 1200, .inl (fun _ => 0))), (q9, .inl (k 0, 1200, .inl (fun _ => 0))), (q10, .inl (k 0, 1200, .inl (fun _ => 0))), (q11, .inl (k 0, 1200, .inl (fun _ => 0))), (q12, .inl (k 0, 1200, .inl (fun _ => 0))), (q13, .inl (k 0, 1400, .inl (fun _ => 0))), (q14, .inl (k 1, 36982, .inr (.inl (fun _ => 0)))), (q15, .inl (k 0, 4, .inl (fun _ => 0))), (q16, .inl (k 1, 3690, .inr (.inl (fun _ => 0)))), (q17, .inl (k 0, 20, .inl (fun _ => 0))), (q18, .inl (k 0, 20, .inl (fun _ => 0))), (q19, .inl (k 0, 20, .inl (fun _ => 0))), (q20, .inl (k 0, 20, .inl (fun _ => 0))), (q21, .inl (k 0, 20, .inl (fun _ => 0))), (q22, .inl (k 0, 319840, .inl (fun _ => 0))), (q23, .inl (k 0, 3998, .inl (fun _ => 0))), (q24, .inl (k 2, 3998, .inl (fun _ => 0))), (q25, .inl (k 0, 170, .inl (fun _ => 0))), (q26, .inl (k 0, 170, .inl (fun _ => 0)))] := S
  refine r_putF C K S 0 rfl rfl clOk_Mo 45 (by decide) wf_Mo_96 rfl rfl (ty := .array .int) (v := .ref q26) (by decide +kernel) rfl rfl (Nat.le_of_ble_eq_true rfl) (fs' := [.int 0, .ref q1, .ref q2, .ref q3, .int (-2), .ref q4, .ref q5, .ref q6, .ref q7, .int 0, .long 0, .int (-2), .int 0, .ref q8, .ref q9, .ref q10, .ref q11, .ref q12, .int 0, .ref q13, .int 0, .int 0, .int 0, .int 0, .int 0, .int 0, .int 0, .ref q14, .int 0, .int 0, .int 0, .int 0, .ref q15, .ref q16, .int 0, .ref q17, .ref q18, .ref q19, .ref q20, .ref q21, .int 0, .ref q22, .ref q23, .ref q24, .ref q25, .ref q26, .null, .null, .int 0, .int 0, .int 0, .int 0, .int 0, .int 0, .int 0, .null, .null, .int 0, .int 0, .int 0, .int 0]) (ws' := [(h0, .inr (8, [.int 0, .ref q1, .ref q2, .ref q3, .int (-2), .ref q4, .ref q5, .ref q6, .ref q7, .int 0, .long 0, .int (-2), .int 0, .ref q8, .ref q9, .ref q10, .ref q11, .ref q12, .int 0, .ref q13, .int 0, .int 0, .int 0, .int 0, .int 0, .int 0, .int 0, .ref q14, .int 0, .int 0, .int 0, .int 0, .ref q15, .ref q16, .int 0, .ref q17, .ref q18, .ref q19, .ref q20, .ref q21, .int 0, .ref q22, .ref q23, .ref q24, .ref q25, .ref q26, .null, .null, .int 0, .int 0, .int 0, .int 0, .int 0, .int 0, .int 0, .null, .null, .int 0, .int 0, .int 0, .int 0])), (q1, .inl (k 0, 4, .inl (fun _ => 0))), (q2, .inl (k 0, 800, .inl (fun _ => 0))), (q3, .inl (k 0, 4, .inl (fun _ => 0))), (q4, .inl (k 0, 800, .inl (fun _ => 0))), (q5, .inl (k 0, 20, .inl (fun _ => 0))), (q6, .inl (k 0, 20, .inl (fun _ => 0))), (q7, .inl (k 0, 20, .inl (fun _ => 0))), (q8, .inl (k 0, 1200, .inl (fun _ => 0))), (q9, .inl (k 0, 1200, .inl (fun _ => 0))), (q10, .inl (k 0, 1200, .inl (fun _ => 0))), (q11, .inl (k 0, 1200, .inl (fun _ => 0))), (q12, .inl (k 0, 1200, .inl (fun _ => 0))), (q13, .inl (k 0, 1400, .inl (fun _ => 0))), (q14, .inl (k 1, 36982, .inr (.inl (fun _ => 0)))), (q15, .inl (k 0, 4, .inl (fun _ => 0))), (q16, .inl (k 1, 3690, .inr (.inl (fun _ => 0)))), (q17, .inl (k 0, 20, .inl (fun _ => 0))), (q18, .inl (k 0, 20, .inl (fun _ => 0))), (q19, .inl (k 0, 20, .inl (fun _ => 0))), (q20, .inl (k 0, 20, .inl (fun _ => 0))), (q21, .inl (k 0, 20, .inl (fun _ => 0))), (q22, .inl (k 0, 319840, .inl (fun _ => 0))), (q23, .inl (k 0, 3998, .inl (fun _ => 0))), (q24, .inl (k 2, 3998, .inl (fun _ => 0))), (q25, .inl (k 0, 170, .inl (fun _ => 0))), (q26, .inl (k 0, 170, .inl (fun _ => 0)))]) rfl rfl d_Mo_init_231 (fun H locs S => ?_)
  refine lv_aload_n hx hb d_Mo_init_234 rfl (lv_at hl 0 rfl) ?_
  refine lv_sipush (v := 170) hx hb d_Mo_init_235 (by decide) ?_
  refine r_newI C K S hA 170 (by decide) (by decide) (by decide) (Nat.le_of_ble_eq_true rfl) (Nat.le_of_ble_eq_true rfl) d_Mo_init_238 (fun q27 H S => ?_)
  have S : Sw G A s.heap _ _ [(h0, .inr (8, [.int 0, .ref q1, .ref q2, .ref q3, .int (-2), .ref q4, .ref q5, .ref q6, .ref q7, .int 0, .long 0, .int (-2), .int 0, .ref q8, .ref q9, .ref q10, .ref q11, .ref q12, .int 0, .ref q13, .int 0, .int 0, .int 0, .int 0, .int 0, .int 0, .int 0, .ref q14, .int 0, .int 0, .int 0, .int 0, .ref q15, .ref q16, .int 0, .ref q17, .ref q18, .ref q19, .ref q20, .ref q21, .int 0, .ref q22, .ref q23, .ref q24, .ref q25, .ref q26, .null, .null, .int 0, .int 0, .int 0, .int 0, .int 0, .int 0, .int 0, .null, .null, .int 0, .int 0, .int 0, .int 0])), (q1, .inl (k 0, 4, .inl (fun _ => 0))), (q2, .inl (k 0, 800, .inl (fun _ => 0))), (q3, .inl (k 0, 4, .inl (fun _ => 0))), (q4, .inl (k 0, 800, .inl (fun _ => 0))), (q5, .inl (k 0, 20, .inl (fun _ => 0))), (q6, .inl (k 0, 20, .inl (fun _ => 0))), (q7, .inl (k 0, 20, .inl (fun _ => 0))), (q8, .inl (k 0, 1200, .inl (fun _ => 0))), (q9, .inl (k 0, 1200, .inl (fun _ => 0))), (q10, .inl (k 0, 1200, .inl (fun _ => 0))), (q11, .inl (k 0, 1200, .inl (fun _ => 0))), (q12, .inl (k 0, 1200, .inl (fun _ => 0))), (q13, .inl (k 0, 1400, .inl (fun _ => 0))), (q14, .inl (k 1, 36982, .inr (.inl (fun _ => 0)))), (q15, .inl (k 0, 4, .inl (fun _ => 0))), (q16, .inl (k 1, 3690, .inr (.inl (fun _ => 0)))), (q17, .inl (k 0, 20, .inl (fun _ => 0))), (q18, .inl (k 0, 20, .inl (fun _ => 0))), (q19, .inl (k 0, 20, .inl (fun _ => 0))), (q20, .inl (k 0, 20, .inl (fun _ => 0))), (q21, .inl (k 0, 20, .inl (fun _ => 0))), (q22, .inl (k 0, 319840, .inl (fun _ => 0))), (q23, .inl (k 0, 3998, .inl (fun _ => 0))), (q24, .inl (k 2, 3998, .inl (fun _ => 0))), (q25, .inl (k 0, 170, .inl (fun _ => 0))), (q26, .inl (k 0, 170, .inl (fun _ => 0))), (q27, .inl (k 0, 170, .inl (fun _ => 0)))] := S
  refine r_putF C K S 0 rfl rfl clOk_Mo 46 (by decide) wf_Mo_99 rfl rfl (ty := .array .int) (v := .ref q27) (by decide +kernel) rfl rfl (Nat.le_of_ble_eq_true rfl) (fs' := [.int 0, .ref q1, .ref q2, .ref q3, .int (-2), .ref q4, .ref q5, .ref q6, .ref q7, .int 0, .long 0, .int (-2), .int 0, .ref q8, .ref q9, .ref q10, .ref q11, .ref q12, .int 0, .ref q13, .int 0, .int 0, .int 0, .int 0, .int 0, .int 0, .int 0, .ref q14, .int 0, .int 0, .int 0, .int 0, .ref q15, .ref q16, .int 0, .ref q17, .ref q18, .ref q19, .ref q20, .ref q21, .int 0, .ref q22, .ref q23, .ref q24, .ref q25, .ref q26, .ref q27, .null, .int 0, .int 0, .int 0, .int 0, .int 0, .int 0, .int 0, .null, .null, .int 0, .int 0, .int 0, .int 0]) (ws' := [(h0, .inr (8, [.int 0, .ref q1, .ref q2, .ref q3, .int (-2), .ref q4, .ref q5, .ref q6, .ref q7, .int 0, .long 0, .int (-2), .int 0, .ref q8, .ref q9, .ref q10, .ref q11, .ref q12, .int 0, .ref q13, .int 0, .int 0, .int 0, .int 0, .int 0, .int 0, .int 0, .ref q14, .int 0, .int 0, .int 0, .int 0, .ref q15, .ref q16, .int 0, .ref q17, .ref q18, .ref q19, .ref q20, .ref q21, .int 0, .ref q22, .ref q23, .ref q24, .ref q25, .ref q26, .ref q27, .null, .int 0, .int 0, .int 0, .int 0, .int 0, .int 0, .int 0, .null, .null, .int 0, .int 0, .int 0, .int 0])), (q1, .inl (k 0, 4, .inl (fun _ => 0))), (q2, .inl (k 0, 800, .inl (fun _ => 0))), (q3, .inl (k 0, 4, .inl (fun _ => 0))), (q4, .inl (k 0, 800, .inl (fun _ => 0))), (q5, .inl (k 0, 20, .inl (fun _ => 0))), (q6, .inl (k 0, 20, .inl (fun _ => 0))), (q7, .inl (k 0, 20, .inl (fun _ => 0))), (q8, .inl (k 0, 1200, .inl (fun _ => 0))), (q9, .inl (k 0, 1200, .inl (fun _ => 0))), (q10, .inl (k 0, 1200, .inl (fun _ => 0))), (q11, .inl (k 0, 1200, .inl (fun _ => 0))), (q12, .inl (k 0, 1200, .inl (fun _ => 0))), (q13, .inl (k 0, 1400, .inl (fun _ => 0))), (q14, .inl (k 1, 36982, .inr (.inl (fun _ => 0)))), (q15, .inl (k 0, 4, .inl (fun _ => 0))), (q16, .inl (k 1, 3690, .inr (.inl (fun _ => 0)))), (q17, .inl (k 0, 20, .inl (fun _ => 0))), (q18, .inl (k 0, 20, .inl (fun _ => 0))), (q19, .inl (k 0, 20, .inl (fun _ => 0))), (q20, .inl (k 0, 20, .inl (fun _ => 0))), (q21, .inl (k 0, 20, .inl (fun _ => 0))), (q22, .inl (k 0, 319840, .inl (fun _ => 0))), (q23, .inl (k 0, 3998, .inl (fun _ => 0))), (q24, .inl (k 2, 3998, .inl (fun _ => 0))), (q25, .inl (k 0, 170, .inl (fun _ => 0))), (q26, .inl (k 0, 170, .inl (fun _ => 0))), (q27, .inl (k 0, 170, .inl (fun _ => 0)))]) rfl rfl d_Mo_init_240 (fun H locs S => ?_)
  refine lv_aload_n hx hb d_Mo_init_243 rfl (lv_at hl 0 rfl) ?_
  refine lv_sipush (v := 170) hx hb d_Mo_init_244 (by decide) ?_
  refine r_newI C K S hA 170 (by decide) (by decide) (by decide) (Nat.le_of_ble_eq_true rfl) (Nat.le_of_ble_eq_true rfl) d_Mo_init_247 (fun q28 H S => ?_)
  have S : Sw G A s.heap _ _ [(h0, .inr (8, [.int 0, .ref q1, .ref q2, .ref q3, .int (-2), .ref q4, .ref q5, .ref q6, .ref q7, .int 0, .long 0, .int (-2), .int 0, .ref q8, .ref q9, .ref q10, .ref q11, .ref q12, .int 0, .ref q13, .int 0, .int 0, .int 0, .int 0, .int 0, .int 0, .int 0, .ref q14, .int 0, .int 0, .int 0, .int 0, .ref q15, .ref q16, .int 0, .ref q17, .ref q18, .ref q19, .ref q20, .ref q21, .int 0, .ref q22, .ref q23, .ref q24, .ref q25, .ref q26, .ref q27, .null, .int 0, .int 0, .int 0, .int 0, .int 0, .int 0, .int 0, .null, .null, .int 0, .int 0, .int 0, .int 0])), (q1, .inl (k 0, 4, .inl (fun _ => 0))), (q2, .inl (k 0, 800, .inl (fun _ => 0))), (q3, .inl (k 0, 4, .inl (fun _ => 0))), (q4, .inl (k 0, 800, .inl (fun _ => 0))), (q5, .inl (k 0, 20, .inl (fun _ => 0))), (q6, .inl (k 0, 20, .inl (fun _ => 0))), (q7, .inl (k 0, 20, .inl (fun _ => 0))), (q8, .inl (k 0, 1200, .inl (fun _ => 0))), (q9, .inl (k 0, 1200, .inl (fun _ => 0))), (q10, .inl (k 0, 1200, .inl (fun _ => 0))), (q11, .inl (k 0, 1200, .inl (fun _ => 0))), (q12, .inl (k 0, 1200, .inl (fun _ => 0))), (q13, .inl (k 0, 1400, .inl (fun _ => 0))), (q14, .inl (k 1, 36982, .inr (.inl (fun _ => 0)))), (q15, .inl (k 0, 4, .inl (fun _ => 0))), (q16, .inl (k 1, 3690, .inr (.inl (fun _ => 0)))), (q17, .inl (k 0, 20, .inl (fun _ => 0))), (q18, .inl (k 0, 20, .inl (fun _ => 0))), (q19, .inl (k 0, 20, .inl (fun _ => 0))), (q20, .inl (k 0, 20, .inl (fun _ => 0))), (q21, .inl (k 0, 20, .inl (fun _ => 0))), (q22, .inl (k 0, 319840, .inl (fun _ => 0))), (q23, .inl (k 0, 3998, .inl (fun _ => 0))), (q24, .inl (k 2, 3998, .inl (fun _ => 0))), (q25, .inl (k 0, 170, .inl (fun _ => 0))), (q26, .inl (k 0, 170, .inl (fun _ => 0))), (q27, .inl (k 0, 170, .inl (fun _ => 0))), (q28, .inl (k 0, 170, .inl (fun _ => 0)))] := S
  refine r_putF C K S 0 rfl rfl clOk_Mo 47 (by decide) wf_Mo_102 rfl rfl (ty := .array .int) (v := .ref q28) (by decide +kernel) rfl rfl (Nat.le_of_ble_eq_true rfl) (fs' := [.int 0, .ref q1, .ref q2, .ref q3, .int (-2), .ref q4, .ref q5, .ref q6, .ref q7, .int 0, .long 0, .int (-2), .int 0, .ref q8, .ref q9, .ref q10, .ref q11, .ref q12, .int 0, .ref q13, .int 0, .int 0, .int 0, .int 0, .int 0, .int 0, .int 0, .ref q14, .int 0, .int 0, .int 0, .int 0, .ref q15, .ref q16, .int 0, .ref q17, .ref q18, .ref q19, .ref q20, .ref q21, .int 0, .ref q22, .ref q23, .ref q24, .ref q25, .ref q26, .ref q27, .ref q28, .int 0, .int 0, .int 0, .int 0, .int 0, .int 0, .int 0, .null, .null, .int 0, .int 0, .int 0, .int 0]) (ws' := [(h0, .inr (8, [.int 0, .ref q1, .ref q2, .ref q3, .int (-2), .ref q4, .ref q5, .ref q6, .ref q7, .int 0, .long 0, .int (-2), .int 0, .ref q8, .ref q9, .ref q10, .ref q11, .ref q12, .int 0, .ref q13, .int 0, .int 0, .int 0, .int 0, .int 0, .int 0, .int 0, .ref q14, .int 0, .int 0, .int 0, .int 0, .ref q15, .ref q16, .int 0, .ref q17, .ref q18, .ref q19, .ref q20, .ref q21, .int 0, .ref q22, .ref q23, .ref q24, .ref q25, .ref q26, .ref q27, .ref q28, .int 0, .int 0, .int 0, .int 0, .int 0, .int 0, .int 0, .null, .null, .int 0, .int 0, .int 0, .int 0])), (q1, .inl (k 0, 4, .inl (fun _ => 0))), (q2, .inl (k 0, 800, .inl (fun _ => 0))), (q3, .inl (k 0, 4, .inl (fun _ => 0))), (q4, .inl (k 0, 800, .inl (fun _ => 0))), (q5, .inl (k 0, 20, .inl (fun _ => 0))), (q6, .inl (k 0, 20, .inl (fun _ => 0))), (q7, .inl (k 0, 20, .inl (fun _ => 0))), (q8, .inl (k 0, 1200, .inl (fun _ => 0))), (q9, .inl (k 0, 1200, .inl (fun _ => 0))), (q10, .inl (k 0, 1200, .inl (fun _ => 0))), (q11, .inl (k 0, 1200, .inl (fun _ => 0))), (q12, .inl (k 0, 1200, .inl (fun _ => 0))), (q13, .inl (k 0, 1400, .inl (fun _ => 0))), (q14, .inl (k 1, 36982, .inr (.inl (fun _ => 0)))), (q15, .inl (k 0, 4, .inl (fun _ => 0))), (q16, .inl (k 1, 3690, .inr (.inl (fun _ => 0)))), (q17, .inl (k 0, 20, .inl (fun _ => 0))), (q18, .inl (k 0, 20, .inl (fun _ => 0))), (q19, .inl (k 0, 20, .inl (fun _ => 0))), (q20, .inl (k 0, 20, .inl (fun _ => 0))), (q21, .inl (k 0, 20, .inl (fun _ => 0))), (q22, .inl (k 0, 319840, .inl (fun _ => 0))), (q23, .inl (k 0, 3998, .inl (fun _ => 0))), (q24, .inl (k 2, 3998, .inl (fun _ => 0))), (q25, .inl (k 0, 170, .inl (fun _ => 0))), (q26, .inl (k 0, 170, .inl (fun _ => 0))), (q27, .inl (k 0, 170, .inl (fun _ => 0))), (q28, .inl (k 0, 170, .inl (fun _ => 0)))]) rfl rfl d_Mo_init_249 (fun H locs S => ?_)
  refine lv_aload_n hx hb d_Mo_init_252 rfl (lv_at hl 0 rfl) ?_
  refine lv_bipush (v := 90) hx hb d_Mo_init_253 (by decide) ?_
  refine r_newI C K S hA 90 (by decide) (by decide) (by decide) (Nat.le_of_ble_eq_true rfl) (Nat.le_of_ble_eq_true rfl) d_Mo_init_255 (fun q29 H S => ?_)
  have S : Sw G A s.heap _ _ [(h0, .inr (8, [.int 0, .ref q1, .ref q2, .ref q3, .int (-2), .ref q4, .ref q5, .ref q6, .ref q7, .int 0, .long 0, .int (-2), .int 0, .ref q8, .ref q9, .ref q10, .ref q11, .ref q12, .int 0, .ref q13, .int 0, .int 0, .int 0, .int 0, .int 0, .int 0, .int 0, .ref q14, .int 0, .int 0, .int 0, .int 0, .ref q15, .ref q16, .int 0, .ref q17, .ref q18, .ref q19, .ref q20, .ref q21, .int 0, .ref q22, .ref q23, .ref q24, .ref q25, .ref q26, .ref q27, .ref q28, .int 0, .int 0, .int 0, .int 0, .int 0, .int 0, .int 0, .null, .null, .int 0, .int 0, .int 0, .int 0])), (q1, .inl (k 0, 4, .inl (fun _ => 0))), (q2, .inl (k 0, 800, .inl (fun _ => 0))), (q3, .inl (k 0, 4, .inl (fun _ => 0))), (q4, .inl (k 0, 800, .inl (fun _ => 0))), (q5, .inl (k 0, 20, .inl (fun _ => 0))), (q6, .inl (k 0, 20, .inl (fun _ => 0))), (q7, .inl (k 0, 20, .inl (fun _ => 0))), (q8, .inl (k 0, 1200, .inl (fun _ => 0))), (q9, .inl (k 0, 1200, .inl (fun _ => 0))), (q10, .inl (k 0, 1200, .inl (fun _ => 0))), (q11, .inl (k 0, 1200, .inl (fun _ => 0))), (q12, .inl (k 0, 1200, .inl (fun _ => 0))), (q13, .inl (k 0, 1400, .inl (fun _ => 0))), (q14, .inl (k 1, 36982, .inr (.inl (fun _ => 0)))), (q15, .inl (k 0, 4, .inl (fun _ => 0))), (q16, .inl (k 1, 3690, .inr (.inl (fun _ => 0)))), (q17, .inl (k 0, 20, .inl (fun _ => 0))), (q18, .inl (k 0, 20, .inl (fun _ => 0))), (q19, .inl (k 0, 20, .inl (fun _ => 0))), (q20, .inl (k 0, 20, .inl (fun _ => 0))), (q21, .inl (k 0, 20, .inl (fun _ => 0))), (q22, .inl (k 0, 319840, .inl (fun _ => 0))), (q23, .inl (k 0, 3998, .inl (fun _ => 0))), (q24, .inl (k 2, 3998, .inl (fun _ => 0))), (q25, .inl (k 0, 170, .inl (fun _ => 0))), (q26, .inl (k 0, 170, .inl (fun _ => 0))), (q27, .inl (k 0, 170, .inl (fun _ => 0))), (q28, .inl (k 0, 170, .inl (fun _ => 0))), (q29, .inl (k 0, 90, .inl (fun _ => 0)))] := S
  refine r_putF C K S 0 rfl rfl clOk_Mo 55 (by decide) wf_Mo_105 rfl rfl (ty := .array .int) (v := .ref q29) (by decide +kernel) rfl rfl (Nat.le_of_ble_eq_true rfl) (fs' := [.int 0, .ref q1, .ref q2, .ref q3, .int (-2), .ref q4, .ref q5, .ref q6, .ref q7, .int 0, .long 0, .int (-2), .int 0, .ref q8, .ref q9, .ref q10, .ref q11, .ref q12, .int 0, .ref q13, .int 0, .int 0, .int 0, .int 0, .int 0, .int 0, .int 0, .ref q14, .int 0, .int 0, .int 0, .int 0, .ref q15, .ref q16, .int 0, .ref q17, .ref q18, .ref q19, .ref q20, .ref q21, .int 0, .ref q22, .ref q23, .ref q24, .ref q25, .ref q26, .ref q27, .ref q28, .int 0, .int 0, .int 0, .int 0, .int 0, .int 0, .int 0, .ref q29, .null, .int 0, .int 0, .int 0, .int 0]) (ws' := [(h0, .inr (8, [.int 0, .ref q1, .ref q2, .ref q3, .int (-2), .ref q4, .ref q5, .ref q6, .ref q7, .int 0, .long 0, .int (-2), .int 0, .ref q8, .ref q9, .ref q10, .ref q11, .ref q12, .int 0, .ref q13, .int 0, .int 0, .int 0, .int 0, .int 0, .int 0, .int 0, .ref q14, .int 0, .int 0, .int 0, .int 0, .ref q15, .ref q16, .int 0, .ref q17, .ref q18, .ref q19, .ref q20, .ref q21, .int 0, .ref q22, .ref q23, .ref q24, .ref q25, .ref q26, .ref q27, .ref q28, .int 0, .int 0, .int 0, .int 0, .int 0, .int 0, .int 0, .ref q29, .null, .int 0, .int 0, .int 0, .int 0])), (q1, .inl (k 0, 4, .inl (fun _ => 0))), (q2, .inl (k 0, 800, .inl (fun _ => 0))), (q3, .inl (k 0, 4, .inl (fun _ => 0))), (q4, .inl (k 0, 800, .inl (fun _ => 0))), (q5, .inl (k 0, 20, .inl (fun _ => 0))), (q6, .inl (k 0, 20, .inl (fun _ => 0))), (q7, .inl (k 0, 20, .inl (fun _ => 0))), (q8, .inl (k 0, 1200, .inl (fun _ => 0))), (q9, .inl (k 0, 1200, .inl (fun _ => 0))), (q10, .inl (k 0, 1200, .inl (fun _ => 0))), (q11, .inl (k 0, 1200, .inl (fun _ => 0))), (q12, .inl (k 0, 1200, .inl (fun _ => 0))), (q13, .inl (k 0, 1400, .inl (fun _ => 0))), (q14, .inl (k 1, 36982, .inr (.inl (fun _ => 0)))), (q15, .inl (k 0, 4, .inl (fun _ => 0))), (q16, .inl (k 1, 3690, .inr (.inl (fun _ => 0)))), (q17, .inl (k 0, 20, .inl (fun _ => 0))), (q18, .inl (k 0, 20, .inl (fun _ => 0))), (q19, .inl (k 0, 20, .inl (fun _ => 0))), (q20, .inl (k 0, 20, .inl (fun _ => 0))), (q21, .inl (k 0, 20, .inl (fun _ => 0))), (q22, .inl (k 0, 319840, .inl (fun _ => 0))), (q23, .inl (k 0, 3998, .inl (fun _ => 0))), (q24, .inl (k 2, 3998, .inl (fun _ => 0))), (q25, .inl (k 0, 170, .inl (fun _ => 0))), (q26, .inl (k 0, 170, .inl (fun _ => 0))), (q27, .inl (k 0, 170, .inl (fun _ => 0))), (q28, .inl (k 0, 170, .inl (fun _ => 0))), (q29, .inl (k 0, 90, .inl (fun _ => 0)))]) rfl rfl d_Mo_init_257 (fun H locs S => ?_)
  refine lv_aload_n hx hb d_Mo_init_260 rfl (lv_at hl 0 rfl) ?_
  refine lv_bipush (v := 41) hx hb d_Mo_init_261 (by decide) ?_
  refine r_newI C K S hA 41 (by decide) (by decide) (by decide) (Nat.le_of_ble_eq_true rfl) (Nat.le_of_ble_eq_true rfl) d_Mo_init_263 (fun q30 H S => ?_)
  have S : Sw G A s.heap _ _ [(h0, .inr (8, [.int 0, .ref q1, .ref q2, .ref q3, .int (-2), .ref q4, .ref q5, .ref q6, .ref q7, .int 0, .long 0, .int (-2), .int 0, .ref q8, .ref q9, .ref q10, .ref q11, .ref q12, .int 0, .ref q13, .int 0, .int 0, .int 0, .int 0, .int 0, .int 0, .int 0, .ref q14, .int 0, .int 0, .int 0, .int 0, .ref q15, .ref q16, .int 0, .ref q17, .ref q18, .ref q19, .ref q20, .ref q21, .int 0, .ref q22, .ref q23, .ref q24, .ref q25, .ref q26, .ref q27, .ref q28, .int 0, .int 0, .int 0, .int 0, .int 0, .int 0, .int 0, .ref q29, .null, .int 0, .int 0, .int 0, .int 0])), (q1, .inl (k 0, 4, .inl (fun _ => 0))), (q2, .inl (k 0, 800, .inl (fun _ => 0))), (q3, .inl (k 0, 4, .inl (fun _ => 0))), (q4, .inl (k 0, 800, .inl (fun _ => 0))), (q5, .inl (k 0, 20, .inl (fun _ => 0))), (q6, .inl (k 0, 20, .inl (fun _ => 0))), (q7, .inl (k 0, 20, .inl (fun _ => 0))), (q8, .inl (k 0, 1200, .inl (fun _ => 0))), (q9, .inl (k 0, 1200, .inl (fun _ => 0))), (q10, .inl (k 0, 1200, .inl (fun _ => 0))), (q11, .inl (k 0, 1200, .inl (fun _ => 0))), (q12, .inl (k 0, 1200, .inl (fun _ => 0))), (q13, .inl (k 0, 1400, .inl (fun _ => 0))), (q14, .inl (k 1, 36982, .inr (.inl (fun _ => 0)))), (q15, .inl (k 0, 4, .inl (fun _ => 0))), (q16, .inl (k 1, 3690, .inr (.inl (fun _ => 0)))), (q17, .inl (k 0, 20, .inl (fun _ => 0))), (q18, .inl (k 0, 20, .inl (fun _ => 0))), (q19, .inl (k 0, 20, .inl (fun _ => 0))), (q20, .inl (k 0, 20, .inl (fun _ => 0))), (q21, .inl (k 0, 20, .inl (fun _ => 0))), (q22, .inl (k 0, 319840, .inl (fun _ => 0))), (q23, .inl (k 0, 3998, .inl (fun _ => 0))), (q24, .inl (k 2, 3998, .inl (fun _ => 0))), (q25, .inl (k 0, 170, .inl (fun _ => 0))), (q26, .inl (k 0, 170, .inl (fun _ => 0))), (q27, .inl (k 0, 170, .inl (fun _ => 0))), (q28, .inl (k 0, 170, .inl (fun _ => 0))), (q29, .inl (k 0, 90, .inl (fun _ => 0))), (q30, .inl (k 0, 41, .inl (fun _ => 0)))] := S
  refine r_putF C K S 0 rfl rfl clOk_Mo 56 (by decide) wf_Mo_108 rfl rfl (ty := .array .int) (v := .ref q30) (by decide +kernel) rfl rfl (Nat.le_of_ble_eq_true rfl) (fs' := [.int 0, .ref q1, .ref q2, .ref q3, .int (-2), .ref q4, .ref q5, .ref q6, .ref q7, .int 0, .long 0, .int (-2), .int 0, .ref q8, .ref q9, .ref q10, .ref q11, .ref q12, .int 0, .ref q13, .int 0, .int 0, .int 0, .int 0, .int 0, .int 0, .int 0, .ref q14, .int 0, .int 0, .int 0, .int 0, .ref q15, .ref q16, .int 0, .ref q17, .ref q18, .ref q19, .ref q20, .ref q21, .int 0, .ref q22, .ref q23, .ref q24, .ref q25, .ref q26, .ref q27, .ref q28, .int 0, .int 0, .int 0, .int 0, .int 0, .int 0, .int 0, .ref q29, .ref q30, .int 0, .int 0, .int 0, .int 0]) (ws' := [(h0, .inr (8, [.int 0, .ref q1, .ref q2, .ref q3, .int (-2), .ref q4, .ref q5, .ref q6, .ref q7, .int 0, .long 0, .int (-2), .int 0, .ref q8, .ref q9, .ref q10, .ref q11, .ref q12, .int 0, .ref q13, .int 0, .int 0, .int 0, .int 0, .int 0, .int 0, .int 0, .ref q14, .int 0, .int 0, .int 0, .int 0, .ref q15, .ref q16, .int 0, .ref q17, .ref q18, .ref q19, .ref q20, .ref q21, .int 0, .ref q22, .ref q23, .ref q24, .ref q25, .ref q26, .ref q27, .ref q28, .int 0, .int 0, .int 0, .int 0, .int 0, .int 0, .int 0, .ref q29, .ref q30, .int 0, .int 0, .int 0, .int 0])), (q1, .inl (k 0, 4, .inl (fun _ => 0))), (q2, .inl (k 0, 800, .inl (fun _ => 0))), (q3, .inl (k 0, 4, .inl (fun _ => 0))), (q4, .inl (k 0, 800, .inl (fun _ => 0))), (q5, .inl (k 0, 20, .inl (fun _ => 0))), (q6, .inl (k 0, 20, .inl (fun _ => 0))), (q7, .inl (k 0, 20, .inl (fun _ => 0))), (q8, .inl (k 0, 1200, .inl (fun _ => 0))), (q9, .inl (k 0, 1200, .inl (fun _ => 0))), (q10, .inl (k 0, 1200, .inl (fun _ => 0))), (q11, .inl (k 0, 1200, .inl (fun _ => 0))), (q12, .inl (k 0, 1200, .inl (fun _ => 0))), (q13, .inl (k 0, 1400, .inl (fun _ => 0))), (q14, .inl (k 1, 36982, .inr (.inl (fun _ => 0)))), (q15, .inl (k 0, 4, .inl (fun _ => 0))), (q16, .inl (k 1, 3690, .inr (.inl (fun _ => 0)))), (q17, .inl (k 0, 20, .inl (fun _ => 0))), (q18, .inl (k 0, 20, .inl (fun _ => 0))), (q19, .inl (k 0, 20, .inl (fun _ => 0))), (q20, .inl (k 0, 20, .inl (fun _ => 0))), (q21, .inl (k 0, 20, .inl (fun _ => 0))), (q22, .inl (k 0, 319840, .inl (fun _ => 0))), (q23, .inl (k 0, 3998, .inl (fun _ => 0))), (q24, .inl (k 2, 3998, .inl (fun _ => 0))), (q25, .inl (k 0, 170, .inl (fun _ => 0))), (q26, .inl (k 0, 170, .inl (fun _ => 0))), (q27, .inl (k 0, 170, .inl (fun _ => 0))), (q28, .inl (k 0, 170, .inl (fun _ => 0))), (q29, .inl (k 0, 90, .inl (fun _ => 0))), (q30, .inl (k 0, 41, .inl (fun _ => 0)))]) rfl rfl d_Mo_init_265 (fun H locs S => ?_)
  exact r_vret C K (ul [q1, q2, q3, q4, q5, q6, q7, q8, q9, q10, q11, q12, q13, q14, q15, q16, q17, q18, q19, q20, q21, q22, q23, q24, q25, q26, q27, q28, q29, q30]) trivial (S.sub [0, 1, 2, 3, 4, 5, 6, 7, 8, 9, 10, 11, 12, 13, 14, 15, 16, 17, 18, 19, 20, 21, 22, 23, 24, 25, 26, 27, 28, 29, 30] (by decide) rfl) d_Mo_init_268 (Nat.le_of_ble_eq_true rfl) (Nat.le_of_ble_eq_true rfl)
end
section
theorem d_PB_isFunction_0 : decode c_PB_isFunction 0 = .ok (.iload_n 1, 1) := by decide +kernel
theorem d_PB_isFunction_1 : decode c_PB_isFunction 1 = .ok (.ifCond .lt 15, 3) := by decide +kernel
theorem d_PB_isFunction_4 : decode c_PB_isFunction 4 = .ok (.iload_n 1, 1) := by decide +kernel
theorem d_PB_isFunction_5 : decode c_PB_isFunction 5 = .ok (.aload_n 0, 1) := by decide +kernel
theorem d_PB_isFunction_6 : decode c_PB_isFunction 6 = .ok (.getfield 57, 3) := by decide +kernel
theorem d_PB_isFunction_9 : decode c_PB_isFunction 9 = .ok (.if_icmp .ge 7, 3) := by decide +kernel
theorem d_PB_isFunction_16 : decode c_PB_isFunction 16 = .ok (.iconst 0, 1) := by decide +kernel
theorem d_PB_isFunction_17 : decode c_PB_isFunction 17 = .ok (.ireturn, 1) := by decide +kernel
set_option maxRecDepth 100000 in
set_option maxHeartbeats 4000000 in
/-- isFunction: there is none -/
theorem f_PB_isFunction (l : Launch) (G : va_G) (k : Nat → ClassId) (h0 sz : Nat) (b re ru ne so be : Nat) (x : Int32) : CI l y_PB_isFunction c_PB_isFunction 2 .boolean { frames := 1, cells := 0, slots := 0, locals := 20 } [.ref h0, .int x] G k sz [(h0, .inr (0, [.ref b, .ref re, .ref ru, .ref ne, .ref so, .ref be, .int 0, .int (-2), .int 0]))] (fun (r : Int32) (_ : Unit) => r = 0) (fun _ => [(h0, .inr (0, [.ref b, .ref re, .ref ru, .ref ne, .ref so, .ref be, .int 0, .int (-2), .int 0]))]) 0 0 := by
  refine met_start (by decide) (Nat.le_of_ble_eq_true rfl) ?_
  intro p e s m below meth c C K hA hsz S ls hl
  generalize va_A [(h0, .inr (0, [.ref b, .ref re, .ref ru, .ref ne, .ref so, .ref be, .int 0, .int (-2), .int 0]))] sz = A at hA S ⊢
  have hx := C.1
  have hb := C.2.1
  have hl : lv_has ls 2 [(0, .ref h0), (1, .int x)] := hl
  refine lv_iload_n hx hb d_PB_isFunction_0 rfl (lv_at hl 1 rfl) ?_
  refine lv_if_lt (tgt := 16) hx hb d_PB_isFunction_1 (by decide) (fun hc1 => ?_) (fun hc1 => ?_)
  · refine lv_iconst (v := 0) hx hb d_PB_isFunction_16 (by decide) ?_
    exact r_iret C K rfl () rfl (S.sub [0] rfl rfl) d_PB_isFunction_17 (Nat.le_of_ble_eq_true rfl) (Nat.le_of_ble_eq_true rfl)
  · refine lv_iload_n hx hb d_PB_isFunction_4 rfl (lv_at hl 1 rfl) ?_
    refine lv_aload_n hx hb d_PB_isFunction_5 rfl (lv_at hl 0 rfl) ?_
    refine r_get C K S 0 rfl rfl clOk_PB 6 (by decide) wf_PB_57 (v := .int 0) rfl d_PB_isFunction_6 ?_
    refine lv_icmp_ge (tgt := 16) hx hb d_PB_isFunction_9 (by decide) (fun _ => ?_) (fun hq => absurd (Int32.not_lt.mp hc1) hq)
    refine lv_iconst (v := 0) hx hb d_PB_isFunction_16 (by decide) ?_
    exact r_iret C K rfl () rfl (S.sub [0] rfl rfl) d_PB_isFunction_17 (Nat.le_of_ble_eq_true rfl) (Nat.le_of_ble_eq_true rfl)
theorem d_PB_place_0 : decode c_PB_place 0 = .ok (.aload_n 0, 1) := by decide +kernel
theorem d_PB_place_1 : decode c_PB_place 1 = .ok (.getfield 29, 3) := by decide +kernel
theorem d_PB_place_4 : decode c_PB_place 4 = .ok (.ireturn, 1) := by decide +kernel
set_option maxRecDepth 100000 in
set_option maxHeartbeats 4000000 in
/-- place() -/
theorem f_PB_place (l : Launch) (G : va_G) (k : Nat → ClassId) (h0 sz : Nat) (b re ru ne so be : Nat) : CI l y_PB_place c_PB_place 1 .int { frames := 1, cells := 0, slots := 0, locals := 20 } [.ref h0] G k sz [(h0, .inr (0, [.ref b, .ref re, .ref ru, .ref ne, .ref so, .ref be, .int 0, .int (-2), .int 0]))] (fun (r : Int32) (_ : Unit) => r = (-2)) (fun _ => []) 0 0 := by
  refine met_start (by decide) (Nat.le_of_ble_eq_true rfl) ?_
  intro p e s m below meth c C K hA hsz S ls hl
  generalize va_A [(h0, .inr (0, [.ref b, .ref re, .ref ru, .ref ne, .ref so, .ref be, .int 0, .int (-2), .int 0]))] sz = A at hA S ⊢
  have hx := C.1
  have hb := C.2.1
  have hl : lv_has ls 1 [(0, .ref h0)] := hl
  refine lv_aload_n hx hb d_PB_place_0 rfl (lv_at hl 0 rfl) ?_
  refine r_get C K S 0 rfl rfl clOk_PB 7 (by decide) wf_PB_29 (v := .int (-2)) rfl d_PB_place_1 ?_
  exact r_iret C K rfl () rfl (S.sub [] rfl rfl) d_PB_place_4 (Nat.le_of_ble_eq_true rfl) (Nat.le_of_ble_eq_true rfl)
theorem d_PB_word_0 : decode c_PB_word 0 = .ok (.aload_n 0, 1) := by decide +kernel
theorem d_PB_word_1 : decode c_PB_word 1 = .ok (.iload_n 1, 1) := by decide +kernel
theorem d_PB_word_2 : decode c_PB_word 2 = .ok (.invokevirtual 63, 3) := by decide +kernel
theorem d_PB_word_5 : decode c_PB_word 5 = .ok (.ifCond .ne 5, 3) := by decide +kernel
theorem d_PB_word_8 : decode c_PB_word 8 = .ok (.iconst (-1), 1) := by decide +kernel
theorem d_PB_word_9 : decode c_PB_word 9 = .ok (.ireturn, 1) := by decide +kernel
set_option maxRecDepth 100000 in
set_option maxHeartbeats 4000000 in
/-- word() -/
theorem f_PB_word (l : Launch) (G : va_G) (k : Nat → ClassId) (h0 sz : Nat) (b re ru ne so be : Nat) (x y : Int32) : CI l y_PB_word c_PB_word 4 .int { frames := 2, cells := 0, slots := 0, locals := 41 } [.ref h0, .int x, .int y] G k sz [(h0, .inr (0, [.ref b, .ref re, .ref ru, .ref ne, .ref so, .ref be, .int 0, .int (-2), .int 0]))] (fun (r : Int32) (_ : Unit) => r = (-1)) (fun _ => []) 0 0 := by
  refine met_start (by decide) (Nat.le_of_ble_eq_true rfl) ?_
  intro p e s m below meth c C K hA hsz S ls hl
  generalize va_A [(h0, .inr (0, [.ref b, .ref re, .ref ru, .ref ne, .ref so, .ref be, .int 0, .int (-2), .int 0]))] sz = A at hA S ⊢
  have hx := C.1
  have hb := C.2.1
  have hl : lv_has ls 4 [(0, .ref h0), (1, .int x), (2, .int y)] := hl
  refine lv_aload_n hx hb d_PB_word_0 rfl (lv_at hl 0 rfl) ?_
  refine lv_iload_n hx hb d_PB_word_1 rfl (lv_at hl 1 rfl) ?_
  refine r_backi (wi := [(h0, .inr (0, [.ref b, .ref re, .ref ru, .ref ne, .ref so, .ref be, .int 0, .int (-2), .int 0]))]) (wr := []) S hA [0] [] rfl rfl (by decide) (by decide) (va_runV (As := [.int x]) (rest := []) ⟨hx, hb, C.2.2.1, C.2.2.2.1, C.2.2.2.2.1⟩ (f_PB_isFunction l G k h0 _ b re ru ne so be x) (k_virt (n := 1) C wc_PB_isFunction rfl rfl wz_PB wm_PB_63 wn_PB_isFunction ws_PB_isFunction (by decide +kernel) ⟨(Nat.le_of_ble_eq_true rfl), (Nat.le_of_ble_eq_true rfl)⟩) (pr_nowV K S [0] (by decide) rfl 0 rfl rfl) rfl rfl hl.1 rfl (lv_room (Nat.le_of_ble_eq_true rfl)) d_PB_word_2 ⟨(Nat.le_of_ble_eq_true rfl), (Nat.le_of_ble_eq_true rfl)⟩) (fun r3 u1 H locs hw2 S => ?_)
  have S : Sw G A s.heap _ _ [(h0, .inr (0, [.ref b, .ref re, .ref ru, .ref ne, .ref so, .ref be, .int 0, .int (-2), .int 0]))] := S
  have hw2 : r3 = 0 := hw2
  subst hw2
  refine lv_if_ne (tgt := 10) hx hb d_PB_word_5 (by decide) (fun hq => absurd (by decide) hq) (fun _ => ?_)
  refine lv_iconst (v := (-1)) hx hb d_PB_word_8 (by decide) ?_
  exact r_iret C K rfl () rfl (S.sub [] rfl rfl) d_PB_word_9 (Nat.le_of_ble_eq_true rfl) (Nat.le_of_ble_eq_true rfl)
theorem d_PB_cut_0 : decode c_PB_cut 0 = .ok (.aload_n 0, 1) := by decide +kernel
theorem d_PB_cut_1 : decode c_PB_cut 1 = .ok (.iload_n 1, 1) := by decide +kernel
theorem d_PB_cut_2 : decode c_PB_cut 2 = .ok (.invokevirtual 63, 3) := by decide +kernel
theorem d_PB_cut_5 : decode c_PB_cut 5 = .ok (.ifCond .eq 20, 3) := by decide +kernel
theorem d_PB_cut_25 : decode c_PB_cut 25 = .ok (.iconst 0, 1) := by decide +kernel
theorem d_PB_cut_26 : decode c_PB_cut 26 = .ok (.ireturn, 1) := by decide +kernel
set_option maxRecDepth 100000 in
set_option maxHeartbeats 4000000 in
/-- cut() -/
theorem f_PB_cut (l : Launch) (G : va_G) (k : Nat → ClassId) (h0 sz : Nat) (b re ru ne so be : Nat) (x y : Int32) : CI l y_PB_cut c_PB_cut 3 .boolean { frames := 2, cells := 0, slots := 0, locals := 41 } [.ref h0, .int x, .int y] G k sz [(h0, .inr (0, [.ref b, .ref re, .ref ru, .ref ne, .ref so, .ref be, .int 0, .int (-2), .int 0]))] (fun (r : Int32) (_ : Unit) => r = 0) (fun _ => []) 0 0 := by
  refine met_start (by decide) (Nat.le_of_ble_eq_true rfl) ?_
  intro p e s m below meth c C K hA hsz S ls hl
  generalize va_A [(h0, .inr (0, [.ref b, .ref re, .ref ru, .ref ne, .ref so, .ref be, .int 0, .int (-2), .int 0]))] sz = A at hA S ⊢
  have hx := C.1
  have hb := C.2.1
  have hl : lv_has ls 3 [(0, .ref h0), (1, .int x), (2, .int y)] := hl
  refine lv_aload_n hx hb d_PB_cut_0 rfl (lv_at hl 0 rfl) ?_
  refine lv_iload_n hx hb d_PB_cut_1 rfl (lv_at hl 1 rfl) ?_
  refine r_backi (wi := [(h0, .inr (0, [.ref b, .ref re, .ref ru, .ref ne, .ref so, .ref be, .int 0, .int (-2), .int 0]))]) (wr := []) S hA [0] [] rfl rfl (by decide) (by decide) (va_runV (As := [.int x]) (rest := []) ⟨hx, hb, C.2.2.1, C.2.2.2.1, C.2.2.2.2.1⟩ (f_PB_isFunction l G k h0 _ b re ru ne so be x) (k_virt (n := 1) C wc_PB_isFunction rfl rfl wz_PB wm_PB_63 wn_PB_isFunction ws_PB_isFunction (by decide +kernel) ⟨(Nat.le_of_ble_eq_true rfl), (Nat.le_of_ble_eq_true rfl)⟩) (pr_nowV K S [0] (by decide) rfl 0 rfl rfl) rfl rfl hl.1 rfl (lv_room (Nat.le_of_ble_eq_true rfl)) d_PB_cut_2 ⟨(Nat.le_of_ble_eq_true rfl), (Nat.le_of_ble_eq_true rfl)⟩) (fun r3 u1 H locs hw2 S => ?_)
  have S : Sw G A s.heap _ _ [(h0, .inr (0, [.ref b, .ref re, .ref ru, .ref ne, .ref so, .ref be, .int 0, .int (-2), .int 0]))] := S
  have hw2 : r3 = 0 := hw2
  subst hw2
  refine lv_if_eq (tgt := 25) hx hb d_PB_cut_5 (by decide) (fun _ => ?_) (fun hq => absurd (by decide) hq)
  refine lv_iconst (v := 0) hx hb d_PB_cut_25 (by decide) ?_
  exact r_iret C K rfl () rfl (S.sub [] rfl rfl) d_PB_cut_26 (Nat.le_of_ble_eq_true rfl) (Nat.le_of_ble_eq_true rfl)
theorem d_PB_firstWrong_0 : decode c_PB_firstWrong 0 = .ok (.iconst 0, 1) := by decide +kernel
theorem d_PB_firstWrong_1 : decode c_PB_firstWrong 1 = .ok (.istore_n 1, 1) := by decide +kernel
theorem d_PB_firstWrong_2 : decode c_PB_firstWrong 2 = .ok (.iload_n 1, 1) := by decide +kernel
theorem d_PB_firstWrong_3 : decode c_PB_firstWrong 3 = .ok (.aload_n 0, 1) := by decide +kernel
theorem d_PB_firstWrong_4 : decode c_PB_firstWrong 4 = .ok (.getfield 57, 3) := by decide +kernel
theorem d_PB_firstWrong_7 : decode c_PB_firstWrong 7 = .ok (.if_icmp .ge 26, 3) := by decide +kernel
theorem d_PB_firstWrong_33 : decode c_PB_firstWrong 33 = .ok (.bipush (-2), 2) := by decide +kernel
theorem d_PB_firstWrong_35 : decode c_PB_firstWrong 35 = .ok (.ireturn, 1) := by decide +kernel
set_option maxRecDepth 100000 in
set_option maxHeartbeats 4000000 in
/-- no function, none wrong -/
theorem f_PB_firstWrong (l : Launch) (G : va_G) (k : Nat → ClassId) (h0 sz : Nat) (b re ru ne so be : Nat) : CI l y_PB_firstWrong c_PB_firstWrong 2 .int { frames := 1, cells := 0, slots := 0, locals := 20 } [.ref h0] G k sz [(h0, .inr (0, [.ref b, .ref re, .ref ru, .ref ne, .ref so, .ref be, .int 0, .int (-2), .int 0]))] (fun (r : Int32) (_ : Unit) => r = (-2)) (fun _ => [(h0, .inr (0, [.ref b, .ref re, .ref ru, .ref ne, .ref so, .ref be, .int 0, .int (-2), .int 0]))]) 0 0 := by
  refine met_start (by decide) (Nat.le_of_ble_eq_true rfl) ?_
  intro p e s m below meth c C K hA hsz S ls hl
  generalize va_A [(h0, .inr (0, [.ref b, .ref re, .ref ru, .ref ne, .ref so, .ref be, .int 0, .int (-2), .int 0]))] sz = A at hA S ⊢
  have hx := C.1
  have hb := C.2.1
  have hl : lv_has ls 2 [(0, .ref h0)] := hl
  refine lv_iconst (v := 0) hx hb d_PB_firstWrong_0 (by decide) ?_
  refine lv_istore_n (lv' := [(1, .int 0), (0, .ref h0)]) hx hb d_PB_firstWrong_1 rfl hl (by decide) rfl (fun ls hl => ?_)
  refine lv_iload_n hx hb d_PB_firstWrong_2 rfl (lv_at hl 0 rfl) ?_
  refine lv_aload_n hx hb d_PB_firstWrong_3 rfl (lv_at hl 1 rfl) ?_
  refine r_get C K S 0 rfl rfl clOk_PB 6 (by decide) wf_PB_57 (v := .int 0) rfl d_PB_firstWrong_4 ?_
  refine lv_icmp_ge (tgt := 33) hx hb d_PB_firstWrong_7 (by decide) (fun _ => ?_) (fun hq => absurd (by decide) hq)
  refine lv_bipush (v := (-2)) hx hb d_PB_firstWrong_33 (by decide) ?_
  exact r_iret C K rfl () rfl (S.sub [0] rfl rfl) d_PB_firstWrong_35 (Nat.le_of_ble_eq_true rfl) (Nat.le_of_ble_eq_true rfl)
theorem d_PB_look_0 : decode c_PB_look 0 = .ok (.aload_n 0, 1) := by decide +kernel
theorem d_PB_look_1 : decode c_PB_look 1 = .ok (.invokevirtual 74, 3) := by decide +kernel
theorem d_PB_look_4 : decode c_PB_look 4 = .ok (.istore_n 1, 1) := by decide +kernel
theorem d_PB_look_5 : decode c_PB_look 5 = .ok (.iload_n 1, 1) := by decide +kernel
theorem d_PB_look_6 : decode c_PB_look 6 = .ok (.bipush (-2), 2) := by decide +kernel
theorem d_PB_look_8 : decode c_PB_look 8 = .ok (.if_icmp .ne 11, 3) := by decide +kernel
theorem d_PB_look_11 : decode c_PB_look 11 = .ok (.aload_n 0, 1) := by decide +kernel
theorem d_PB_look_12 : decode c_PB_look 12 = .ok (.bipush (-2), 2) := by decide +kernel
theorem d_PB_look_14 : decode c_PB_look 14 = .ok (.putfield 29, 3) := by decide +kernel
theorem d_PB_look_17 : decode c_PB_look 17 = .ok (.iconst 0, 1) := by decide +kernel
theorem d_PB_look_18 : decode c_PB_look 18 = .ok (.ireturn, 1) := by decide +kernel
set_option maxRecDepth 100000 in
set_option maxHeartbeats 4000000 in
/-- look() -/
theorem f_PB_look (l : Launch) (G : va_G) (k : Nat → ClassId) (h0 sz : Nat) (b re ru ne so be : Nat) : CI l y_PB_look c_PB_look 2 .int { frames := 2, cells := 0, slots := 0, locals := 41 } [.ref h0] G k sz [(h0, .inr (0, [.ref b, .ref re, .ref ru, .ref ne, .ref so, .ref be, .int 0, .int (-2), .int 0]))] (fun (r : Int32) (_ : Unit) => r = 0) (fun _ => []) 0 0 := by
  refine met_start (by decide) (Nat.le_of_ble_eq_true rfl) ?_
  intro p e s m below meth c C K hA hsz S ls hl
  generalize va_A [(h0, .inr (0, [.ref b, .ref re, .ref ru, .ref ne, .ref so, .ref be, .int 0, .int (-2), .int 0]))] sz = A at hA S ⊢
  have hx := C.1
  have hb := C.2.1
  have hl : lv_has ls 2 [(0, .ref h0)] := hl
  refine lv_aload_n hx hb d_PB_look_0 rfl (lv_at hl 0 rfl) ?_
  refine r_backi (wi := [(h0, .inr (0, [.ref b, .ref re, .ref ru, .ref ne, .ref so, .ref be, .int 0, .int (-2), .int 0]))]) (wr := []) S hA [0] [] rfl rfl (by decide) (by decide) (va_runV (As := []) (rest := []) ⟨hx, hb, C.2.2.1, C.2.2.2.1, C.2.2.2.2.1⟩ (f_PB_firstWrong l G k h0 _ b re ru ne so be) (k_virt (n := 0) C wc_PB_firstWrong rfl rfl wz_PB wm_PB_74 wn_PB_firstWrong ws_PB_firstWrong (by decide +kernel) ⟨(Nat.le_of_ble_eq_true rfl), (Nat.le_of_ble_eq_true rfl)⟩) (pr_nowV K S [0] (by decide) rfl 0 rfl rfl) rfl rfl hl.1 rfl (lv_room (Nat.le_of_ble_eq_true rfl)) d_PB_look_1 ⟨(Nat.le_of_ble_eq_true rfl), (Nat.le_of_ble_eq_true rfl)⟩) (fun r3 u1 H locs hw2 S => ?_)
  have S : Sw G A s.heap _ _ [(h0, .inr (0, [.ref b, .ref re, .ref ru, .ref ne, .ref so, .ref be, .int 0, .int (-2), .int 0]))] := S
  have hw2 : r3 = (-2) := hw2
  subst hw2
  refine lv_istore_n (lv' := [(1, .int (-2)), (0, .ref h0)]) hx hb d_PB_look_4 rfl hl (by decide) rfl (fun ls hl => ?_)
  refine lv_iload_n hx hb d_PB_look_5 rfl (lv_at hl 0 rfl) ?_
  refine lv_bipush (v := (-2)) hx hb d_PB_look_6 (by decide) ?_
  refine lv_icmp_ne (tgt := 19) hx hb d_PB_look_8 (by decide) (fun hq => absurd (by decide) hq) (fun _ => ?_)
  refine lv_aload_n hx hb d_PB_look_11 rfl (lv_at hl 1 rfl) ?_
  refine lv_bipush (v := (-2)) hx hb d_PB_look_12 (by decide) ?_
  refine r_put C K S 0 rfl rfl clOk_PB 7 (by decide) wf_PB_29 rfl (ty := .int) (v := .int (-2)) (by decide +kernel) rfl rfl (Nat.le_of_ble_eq_true rfl) (fs' := [.ref b, .ref re, .ref ru, .ref ne, .ref so, .ref be, .int 0, .int (-2), .int 0]) (ws' := [(h0, .inr (0, [.ref b, .ref re, .ref ru, .ref ne, .ref so, .ref be, .int 0, .int (-2), .int 0]))]) rfl rfl d_PB_look_14 (fun H locs S => ?_)
  refine lv_iconst (v := 0) hx hb d_PB_look_17 (by decide) ?_
  exact r_iret C K rfl () rfl (S.sub [] rfl rfl) d_PB_look_18 (Nat.le_of_ble_eq_true rfl) (Nat.le_of_ble_eq_true rfl)
theorem d_PB_run_0 : decode c_PB_run 0 = .ok (.aload_n 0, 1) := by decide +kernel
theorem d_PB_run_1 : decode c_PB_run 1 = .ok (.iload_n 1, 1) := by decide +kernel
theorem d_PB_run_2 : decode c_PB_run 2 = .ok (.invokevirtual 63, 3) := by decide +kernel
theorem d_PB_run_5 : decode c_PB_run 5 = .ok (.ifCond .eq 31, 3) := by decide +kernel
theorem d_PB_run_36 : decode c_PB_run 36 = .ok (.iconst (-1), 1) := by decide +kernel
theorem d_PB_run_37 : decode c_PB_run 37 = .ok (.ireturn, 1) := by decide +kernel
set_option maxRecDepth 100000 in
set_option maxHeartbeats 4000000 in
/-- run() -/
theorem f_PB_run (l : Launch) (G : va_G) (k : Nat → ClassId) (h0 sz : Nat) (b re ru ne so be : Nat) (x y z v : Int32) : CI l y_PB_run c_PB_run 5 .int { frames := 2, cells := 0, slots := 0, locals := 41 } [.ref h0, .int x, .int y, .int z, .int v] G k sz [(h0, .inr (0, [.ref b, .ref re, .ref ru, .ref ne, .ref so, .ref be, .int 0, .int (-2), .int 0]))] (fun (r : Int32) (_ : Unit) => r = (-1)) (fun _ => []) 0 0 := by
  refine met_start (by decide) (Nat.le_of_ble_eq_true rfl) ?_
  intro p e s m below meth c C K hA hsz S ls hl
  generalize va_A [(h0, .inr (0, [.ref b, .ref re, .ref ru, .ref ne, .ref so, .ref be, .int 0, .int (-2), .int 0]))] sz = A at hA S ⊢
  have hx := C.1
  have hb := C.2.1
  have hl : lv_has ls 5 [(0, .ref h0), (1, .int x), (2, .int y), (3, .int z), (4, .int v)] := hl
  refine lv_aload_n hx hb d_PB_run_0 rfl (lv_at hl 0 rfl) ?_
  refine lv_iload_n hx hb d_PB_run_1 rfl (lv_at hl 1 rfl) ?_
  refine r_backi (wi := [(h0, .inr (0, [.ref b, .ref re, .ref ru, .ref ne, .ref so, .ref be, .int 0, .int (-2), .int 0]))]) (wr := []) S hA [0] [] rfl rfl (by decide) (by decide) (va_runV (As := [.int x]) (rest := []) ⟨hx, hb, C.2.2.1, C.2.2.2.1, C.2.2.2.2.1⟩ (f_PB_isFunction l G k h0 _ b re ru ne so be x) (k_virt (n := 1) C wc_PB_isFunction rfl rfl wz_PB wm_PB_63 wn_PB_isFunction ws_PB_isFunction (by decide +kernel) ⟨(Nat.le_of_ble_eq_true rfl), (Nat.le_of_ble_eq_true rfl)⟩) (pr_nowV K S [0] (by decide) rfl 0 rfl rfl) rfl rfl hl.1 rfl (lv_room (Nat.le_of_ble_eq_true rfl)) d_PB_run_2 ⟨(Nat.le_of_ble_eq_true rfl), (Nat.le_of_ble_eq_true rfl)⟩) (fun r3 u1 H locs hw2 S => ?_)
  have S : Sw G A s.heap _ _ [(h0, .inr (0, [.ref b, .ref re, .ref ru, .ref ne, .ref so, .ref be, .int 0, .int (-2), .int 0]))] := S
  have hw2 : r3 = 0 := hw2
  subst hw2
  refine lv_if_eq (tgt := 36) hx hb d_PB_run_5 (by decide) (fun _ => ?_) (fun hq => absurd (by decide) hq)
  refine lv_iconst (v := (-1)) hx hb d_PB_run_36 (by decide) ?_
  exact r_iret C K rfl () rfl (S.sub [] rfl rfl) d_PB_run_37 (Nat.le_of_ble_eq_true rfl) (Nat.le_of_ble_eq_true rfl)
theorem d_PB_told_0 : decode c_PB_told 0 = .ok (.aload_n 0, 1) := by decide +kernel
theorem d_PB_told_1 : decode c_PB_told 1 = .ok (.getfield 103, 3) := by decide +kernel
theorem d_PB_told_4 : decode c_PB_told 4 = .ok (.ifCond .eq 12, 3) := by decide +kernel
theorem d_PB_told_16 : decode c_PB_told 16 = .ok (.bipush (-2), 2) := by decide +kernel
theorem d_PB_told_18 : decode c_PB_told 18 = .ok (.ireturn, 1) := by decide +kernel
set_option maxRecDepth 100000 in
set_option maxHeartbeats 4000000 in
/-- told() -/
theorem f_PB_told (l : Launch) (G : va_G) (k : Nat → ClassId) (h0 sz : Nat) (b re ru ne so be : Nat) (x : Int32) : CI l y_PB_told c_PB_told 2 .int { frames := 1, cells := 0, slots := 0, locals := 20 } [.ref h0, .int x] G k sz [(h0, .inr (0, [.ref b, .ref re, .ref ru, .ref ne, .ref so, .ref be, .int 0, .int (-2), .int 0]))] (fun (r : Int32) (_ : Unit) => r = (-2)) (fun _ => []) 0 0 := by
  refine met_start (by decide) (Nat.le_of_ble_eq_true rfl) ?_
  intro p e s m below meth c C K hA hsz S ls hl
  generalize va_A [(h0, .inr (0, [.ref b, .ref re, .ref ru, .ref ne, .ref so, .ref be, .int 0, .int (-2), .int 0]))] sz = A at hA S ⊢
  have hx := C.1
  have hb := C.2.1
  have hl : lv_has ls 2 [(0, .ref h0), (1, .int x)] := hl
  refine lv_aload_n hx hb d_PB_told_0 rfl (lv_at hl 0 rfl) ?_
  refine r_get C K S 0 rfl rfl clOk_PB 8 (by decide) wf_PB_103 (v := .int 0) rfl d_PB_told_1 ?_
  refine lv_if_eq (tgt := 16) hx hb d_PB_told_4 (by decide) (fun _ => ?_) (fun hq => absurd (by decide) hq)
  refine lv_bipush (v := (-2)) hx hb d_PB_told_16 (by decide) ?_
  exact r_iret C K rfl () rfl (S.sub [] rfl rfl) d_PB_told_18 (Nat.le_of_ble_eq_true rfl) (Nat.le_of_ble_eq_true rfl)
theorem d_PB_cost_0 : decode c_PB_cost 0 = .ok (.aload_n 0, 1) := by decide +kernel
theorem d_PB_cost_1 : decode c_PB_cost 1 = .ok (.getfield 46, 3) := by decide +kernel
theorem d_PB_cost_4 : decode c_PB_cost 4 = .ok (.getfield 93, 3) := by decide +kernel
theorem d_PB_cost_7 : decode c_PB_cost 7 = .ok (.lreturn, 1) := by decide +kernel
set_option maxRecDepth 100000 in
set_option maxHeartbeats 4000000 in
/-- cost() -/
theorem f_PB_cost (l : Launch) (G : va_G) (k : Nat → ClassId) (h0 sz : Nat) (b re ru ne so be : Nat) (rb rc rl rw rx : Nat) : CL l y_PB_cost c_PB_cost 1 { frames := 1, cells := 0, slots := 0, locals := 20 } [.ref h0] G k sz [(h0, .inr (0, [.ref b, .ref re, .ref ru, .ref ne, .ref so, .ref be, .int 0, .int (-2), .int 0])), (ru, .inr (6, [.ref rb, .ref rc, .ref rl, .ref rw, .ref rx, .int 0, .int 0, .int 0, .int 0, .int 0, .long 0, .int (-2)]))] (fun (r : Int64) (_ : Unit) => r = 0) (fun _ => []) 0 0 := by
  refine met_start (by decide) (Nat.le_of_ble_eq_true rfl) ?_
  intro p e s m below meth c C K hA hsz S ls hl
  generalize va_A [(h0, .inr (0, [.ref b, .ref re, .ref ru, .ref ne, .ref so, .ref be, .int 0, .int (-2), .int 0])), (ru, .inr (6, [.ref rb, .ref rc, .ref rl, .ref rw, .ref rx, .int 0, .int 0, .int 0, .int 0, .int 0, .long 0, .int (-2)]))] sz = A at hA S ⊢
  have hx := C.1
  have hb := C.2.1
  have hl : lv_has ls 1 [(0, .ref h0)] := hl
  refine lv_aload_n hx hb d_PB_cost_0 rfl (lv_at hl 0 rfl) ?_
  refine r_get C K S 0 rfl rfl clOk_PB 2 (by decide) wf_PB_46 (v := .ref ru) rfl d_PB_cost_1 ?_
  refine r_getN C K S 1 rfl rfl clOk_Ru 10 (by decide) xf_PB_93 (v := .long 0) rfl d_PB_cost_4 ?_
  exact r_lret C K () rfl (S.sub [] rfl rfl) d_PB_cost_7 (Nat.le_of_ble_eq_true rfl) (Nat.le_of_ble_eq_true rfl)
theorem d_PB_given_0 : decode c_PB_given 0 = .ok (.aload_n 0, 1) := by decide +kernel
theorem d_PB_given_1 : decode c_PB_given 1 = .ok (.getfield 46, 3) := by decide +kernel
theorem d_PB_given_4 : decode c_PB_given 4 = .ok (.getfield 97, 3) := by decide +kernel
theorem d_PB_given_7 : decode c_PB_given 7 = .ok (.ireturn, 1) := by decide +kernel
set_option maxRecDepth 100000 in
set_option maxHeartbeats 4000000 in
/-- given() -/
theorem f_PB_given (l : Launch) (G : va_G) (k : Nat → ClassId) (h0 sz : Nat) (b re ru ne so be : Nat) (rb rc rl rw rx : Nat) : CI l y_PB_given c_PB_given 1 .int { frames := 1, cells := 0, slots := 0, locals := 20 } [.ref h0] G k sz [(h0, .inr (0, [.ref b, .ref re, .ref ru, .ref ne, .ref so, .ref be, .int 0, .int (-2), .int 0])), (ru, .inr (6, [.ref rb, .ref rc, .ref rl, .ref rw, .ref rx, .int 0, .int 0, .int 0, .int 0, .int 0, .long 0, .int (-2)]))] (fun (r : Int32) (_ : Unit) => r = (-2)) (fun _ => []) 0 0 := by
  refine met_start (by decide) (Nat.le_of_ble_eq_true rfl) ?_
  intro p e s m below meth c C K hA hsz S ls hl
  generalize va_A [(h0, .inr (0, [.ref b, .ref re, .ref ru, .ref ne, .ref so, .ref be, .int 0, .int (-2), .int 0])), (ru, .inr (6, [.ref rb, .ref rc, .ref rl, .ref rw, .ref rx, .int 0, .int 0, .int 0, .int 0, .int 0, .long 0, .int (-2)]))] sz = A at hA S ⊢
  have hx := C.1
  have hb := C.2.1
  have hl : lv_has ls 1 [(0, .ref h0)] := hl
  refine lv_aload_n hx hb d_PB_given_0 rfl (lv_at hl 0 rfl) ?_
  refine r_get C K S 0 rfl rfl clOk_PB 2 (by decide) wf_PB_46 (v := .ref ru) rfl d_PB_given_1 ?_
  refine r_getN C K S 1 rfl rfl clOk_Ru 11 (by decide) xf_PB_97 (v := .int (-2)) rfl d_PB_given_4 ?_
  exact r_iret C K rfl () rfl (S.sub [] rfl rfl) d_PB_given_7 (Nat.le_of_ble_eq_true rfl) (Nat.le_of_ble_eq_true rfl)
theorem d_PB_steps_0 : decode c_PB_steps 0 = .ok (.aload_n 0, 1) := by decide +kernel
theorem d_PB_steps_1 : decode c_PB_steps 1 = .ok (.getfield 46, 3) := by decide +kernel
theorem d_PB_steps_4 : decode c_PB_steps 4 = .ok (.getfield 100, 3) := by decide +kernel
theorem d_PB_steps_7 : decode c_PB_steps 7 = .ok (.ireturn, 1) := by decide +kernel
set_option maxRecDepth 100000 in
set_option maxHeartbeats 4000000 in
/-- steps() -/
theorem f_PB_steps (l : Launch) (G : va_G) (k : Nat → ClassId) (h0 sz : Nat) (b re ru ne so be : Nat) (rb rc rl rw rx : Nat) : CI l y_PB_steps c_PB_steps 1 .int { frames := 1, cells := 0, slots := 0, locals := 20 } [.ref h0] G k sz [(h0, .inr (0, [.ref b, .ref re, .ref ru, .ref ne, .ref so, .ref be, .int 0, .int (-2), .int 0])), (ru, .inr (6, [.ref rb, .ref rc, .ref rl, .ref rw, .ref rx, .int 0, .int 0, .int 0, .int 0, .int 0, .long 0, .int (-2)]))] (fun (r : Int32) (_ : Unit) => r = 0) (fun _ => []) 0 0 := by
  refine met_start (by decide) (Nat.le_of_ble_eq_true rfl) ?_
  intro p e s m below meth c C K hA hsz S ls hl
  generalize va_A [(h0, .inr (0, [.ref b, .ref re, .ref ru, .ref ne, .ref so, .ref be, .int 0, .int (-2), .int 0])), (ru, .inr (6, [.ref rb, .ref rc, .ref rl, .ref rw, .ref rx, .int 0, .int 0, .int 0, .int 0, .int 0, .long 0, .int (-2)]))] sz = A at hA S ⊢
  have hx := C.1
  have hb := C.2.1
  have hl : lv_has ls 1 [(0, .ref h0)] := hl
  refine lv_aload_n hx hb d_PB_steps_0 rfl (lv_at hl 0 rfl) ?_
  refine r_get C K S 0 rfl rfl clOk_PB 2 (by decide) wf_PB_46 (v := .ref ru) rfl d_PB_steps_1 ?_
  refine r_getN C K S 1 rfl rfl clOk_Ru 9 (by decide) xf_PB_100 (v := .int 0) rfl d_PB_steps_4 ?_
  exact r_iret C K rfl () rfl (S.sub [] rfl rfl) d_PB_steps_7 (Nat.le_of_ble_eq_true rfl) (Nat.le_of_ble_eq_true rfl)
theorem d_Be_has_0 : decode c_Be_has 0 = .ok (.aload_n 0, 1) := by decide +kernel
theorem d_Be_has_1 : decode c_Be_has 1 = .ok (.getfield 34, 3) := by decide +kernel
theorem d_Be_has_4 : decode c_Be_has 4 = .ok (.ifCond .eq 24, 3) := by decide +kernel
theorem d_Be_has_28 : decode c_Be_has 28 = .ok (.iconst 0, 1) := by decide +kernel
theorem d_Be_has_29 : decode c_Be_has 29 = .ok (.ireturn, 1) := by decide +kernel
set_option maxRecDepth 100000 in
set_option maxHeartbeats 4000000 in
/-- has(): nothing is found -/
theorem f_Be_has (l : Launch) (G : va_G) (k : Nat → ClassId) (h0 sz : Nat) (bp bu bs bf bq br : Nat) (x : Int32) : CI l y_Be_has c_Be_has 2 .boolean { frames := 1, cells := 0, slots := 0, locals := 20 } [.ref h0, .int x] G k sz [(h0, .inr (3, [.ref bp, .ref bu, .ref bs, .ref bf, .ref bq, .ref br, .int 0, .int 0]))] (fun (r : Int32) (_ : Unit) => r = 0) (fun _ => [(h0, .inr (3, [.ref bp, .ref bu, .ref bs, .ref bf, .ref bq, .ref br, .int 0, .int 0]))]) 0 0 := by
  refine met_start (by decide) (Nat.le_of_ble_eq_true rfl) ?_
  intro p e s m below meth c C K hA hsz S ls hl
  generalize va_A [(h0, .inr (3, [.ref bp, .ref bu, .ref bs, .ref bf, .ref bq, .ref br, .int 0, .int 0]))] sz = A at hA S ⊢
  have hx := C.1
  have hb := C.2.1
  have hl : lv_has ls 2 [(0, .ref h0), (1, .int x)] := hl
  refine lv_aload_n hx hb d_Be_has_0 rfl (lv_at hl 0 rfl) ?_
  refine r_get C K S 0 rfl rfl clOk_Be 6 (by decide) wf_Be_34 (v := .int 0) rfl d_Be_has_1 ?_
  refine lv_if_eq (tgt := 28) hx hb d_Be_has_4 (by decide) (fun _ => ?_) (fun hq => absurd (by decide) hq)
  refine lv_iconst (v := 0) hx hb d_Be_has_28 (by decide) ?_
  exact r_iret C K rfl () rfl (S.sub [0] rfl rfl) d_Be_has_29 (Nat.le_of_ble_eq_true rfl) (Nat.le_of_ble_eq_true rfl)
theorem d_PB_bound_0 : decode c_PB_bound 0 = .ok (.aload_n 0, 1) := by decide +kernel
theorem d_PB_bound_1 : decode c_PB_bound 1 = .ok (.iconst 0, 1) := by decide +kernel
theorem d_PB_bound_2 : decode c_PB_bound 2 = .ok (.putfield 103, 3) := by decide +kernel
theorem d_PB_bound_5 : decode c_PB_bound 5 = .ok (.aload_n 0, 1) := by decide +kernel
theorem d_PB_bound_6 : decode c_PB_bound 6 = .ok (.getfield 25, 3) := by decide +kernel
theorem d_PB_bound_9 : decode c_PB_bound 9 = .ok (.iconst 0, 1) := by decide +kernel
theorem d_PB_bound_10 : decode c_PB_bound 10 = .ok (.putfield 107, 3) := by decide +kernel
theorem d_PB_bound_13 : decode c_PB_bound 13 = .ok (.aload_n 0, 1) := by decide +kernel
theorem d_PB_bound_14 : decode c_PB_bound 14 = .ok (.iload_n 1, 1) := by decide +kernel
theorem d_PB_bound_15 : decode c_PB_bound 15 = .ok (.invokevirtual 63, 3) := by decide +kernel
theorem d_PB_bound_18 : decode c_PB_bound 18 = .ok (.ifCond .eq 12, 3) := by decide +kernel
theorem d_PB_bound_30 : decode c_PB_bound 30 = .ok (.iconst (-1), 1) := by decide +kernel
theorem d_PB_bound_31 : decode c_PB_bound 31 = .ok (.ireturn, 1) := by decide +kernel
set_option maxRecDepth 100000 in
set_option maxHeartbeats 4000000 in
/-- bound() -/
theorem f_PB_bound (l : Launch) (G : va_G) (k : Nat → ClassId) (h0 sz : Nat) (b re ru ne so be : Nat) (bp bu bs bf bq br : Nat) (x : Int32) : CI l y_PB_bound c_PB_bound 2 .int { frames := 2, cells := 0, slots := 0, locals := 41 } [.ref h0, .int x] G k sz [(h0, .inr (0, [.ref b, .ref re, .ref ru, .ref ne, .ref so, .ref be, .int 0, .int (-2), .int 0])), (be, .inr (3, [.ref bp, .ref bu, .ref bs, .ref bf, .ref bq, .ref br, .int 0, .int 0]))] (fun (r : Int32) (_ : Unit) => r = (-1)) (fun _ => []) 0 0 := by
  refine met_start (by decide) (Nat.le_of_ble_eq_true rfl) ?_
  intro p e s m below meth c C K hA hsz S ls hl
  generalize va_A [(h0, .inr (0, [.ref b, .ref re, .ref ru, .ref ne, .ref so, .ref be, .int 0, .int (-2), .int 0])), (be, .inr (3, [.ref bp, .ref bu, .ref bs, .ref bf, .ref bq, .ref br, .int 0, .int 0]))] sz = A at hA S ⊢
  have hx := C.1
  have hb := C.2.1
  have hl : lv_has ls 2 [(0, .ref h0), (1, .int x)] := hl
  refine lv_aload_n hx hb d_PB_bound_0 rfl (lv_at hl 0 rfl) ?_
  refine lv_iconst (v := 0) hx hb d_PB_bound_1 (by decide) ?_
  refine r_put C K S 0 rfl rfl clOk_PB 8 (by decide) wf_PB_103 rfl (ty := .boolean) (v := .int 0) (by decide +kernel) rfl rfl (Nat.le_of_ble_eq_true rfl) (fs' := [.ref b, .ref re, .ref ru, .ref ne, .ref so, .ref be, .int 0, .int (-2), .int 0]) (ws' := [(h0, .inr (0, [.ref b, .ref re, .ref ru, .ref ne, .ref so, .ref be, .int 0, .int (-2), .int 0])), (be, .inr (3, [.ref bp, .ref bu, .ref bs, .ref bf, .ref bq, .ref br, .int 0, .int 0]))]) rfl rfl d_PB_bound_2 (fun H locs S => ?_)
  refine lv_aload_n hx hb d_PB_bound_5 rfl (lv_at hl 0 rfl) ?_
  refine r_get C K S 0 rfl rfl clOk_PB 5 (by decide) wf_PB_25 (v := .ref be) rfl d_PB_bound_6 ?_
  refine lv_iconst (v := 0) hx hb d_PB_bound_9 (by decide) ?_
  refine r_putN C K S 1 rfl rfl clOk_Be 6 (by decide) xf_PB_107 rfl (ty := .boolean) (v := .int 0) (by decide +kernel) rfl rfl (Nat.le_of_ble_eq_true rfl) (fs' := [.ref bp, .ref bu, .ref bs, .ref bf, .ref bq, .ref br, .int 0, .int 0]) (ws' := [(h0, .inr (0, [.ref b, .ref re, .ref ru, .ref ne, .ref so, .ref be, .int 0, .int (-2), .int 0])), (be, .inr (3, [.ref bp, .ref bu, .ref bs, .ref bf, .ref bq, .ref br, .int 0, .int 0]))]) rfl rfl d_PB_bound_10 (fun H locs S => ?_)
  refine lv_aload_n hx hb d_PB_bound_13 rfl (lv_at hl 0 rfl) ?_
  refine lv_iload_n hx hb d_PB_bound_14 rfl (lv_at hl 1 rfl) ?_
  refine r_backi (wi := [(h0, .inr (0, [.ref b, .ref re, .ref ru, .ref ne, .ref so, .ref be, .int 0, .int (-2), .int 0]))]) (wr := [(be, .inr (3, [.ref bp, .ref bu, .ref bs, .ref bf, .ref bq, .ref br, .int 0, .int 0]))]) S hA [0] [1] rfl rfl (by decide) (by decide) (va_runV (As := [.int x]) (rest := []) ⟨hx, hb, C.2.2.1, C.2.2.2.1, C.2.2.2.2.1⟩ (f_PB_isFunction l G k h0 _ b re ru ne so be x) (k_virt (n := 1) C wc_PB_isFunction rfl rfl wz_PB wm_PB_63 wn_PB_isFunction ws_PB_isFunction (by decide +kernel) ⟨(Nat.le_of_ble_eq_true rfl), (Nat.le_of_ble_eq_true rfl)⟩) (pr_nowV K S [0] (by decide) rfl 0 rfl rfl) rfl rfl hl.1 rfl (lv_room (Nat.le_of_ble_eq_true rfl)) d_PB_bound_15 ⟨(Nat.le_of_ble_eq_true rfl), (Nat.le_of_ble_eq_true rfl)⟩) (fun r3 u1 H locs hw2 S => ?_)
  have S : Sw G A s.heap _ _ [(be, .inr (3, [.ref bp, .ref bu, .ref bs, .ref bf, .ref bq, .ref br, .int 0, .int 0])), (h0, .inr (0, [.ref b, .ref re, .ref ru, .ref ne, .ref so, .ref be, .int 0, .int (-2), .int 0]))] := S
  have hw2 : r3 = 0 := hw2
  subst hw2
  refine lv_if_eq (tgt := 30) hx hb d_PB_bound_18 (by decide) (fun _ => ?_) (fun hq => absurd (by decide) hq)
  refine lv_iconst (v := (-1)) hx hb d_PB_bound_30 (by decide) ?_
  exact r_iret C K rfl () rfl (S.sub [] rfl rfl) d_PB_bound_31 (Nat.le_of_ble_eq_true rfl) (Nat.le_of_ble_eq_true rfl)
theorem d_PB_scaled_0 : decode c_PB_scaled 0 = .ok (.iload_n 2, 1) := by decide +kernel
theorem d_PB_scaled_1 : decode c_PB_scaled 1 = .ok (.ifCond .lt 20, 3) := by decide +kernel
theorem d_PB_scaled_4 : decode c_PB_scaled 4 = .ok (.iload_n 2, 1) := by decide +kernel
theorem d_PB_scaled_5 : decode c_PB_scaled 5 = .ok (.bipush 40, 2) := by decide +kernel
theorem d_PB_scaled_7 : decode c_PB_scaled 7 = .ok (.if_icmp .gt 14, 3) := by decide +kernel
theorem d_PB_scaled_10 : decode c_PB_scaled 10 = .ok (.aload_n 0, 1) := by decide +kernel
theorem d_PB_scaled_11 : decode c_PB_scaled 11 = .ok (.getfield 25, 3) := by decide +kernel
theorem d_PB_scaled_14 : decode c_PB_scaled 14 = .ok (.iload_n 1, 1) := by decide +kernel
theorem d_PB_scaled_15 : decode c_PB_scaled 15 = .ok (.invokevirtual 133, 3) := by decide +kernel
theorem d_PB_scaled_18 : decode c_PB_scaled 18 = .ok (.ifCond .ne 7, 3) := by decide +kernel
theorem d_PB_scaled_21 : decode c_PB_scaled 21 = .ok (.ldc2_w 136, 3) := by decide +kernel
theorem d_PB_scaled_24 : decode c_PB_scaled 24 = .ok (.lreturn, 1) := by decide +kernel
set_option maxRecDepth 100000 in
set_option maxHeartbeats 4000000 in
/-- scaled() -/
theorem f_PB_scaled (l : Launch) (G : va_G) (k : Nat → ClassId) (h0 sz : Nat) (b re ru ne so be : Nat) (bp bu bs bf bq br : Nat) (x y : Int32) : CL l y_PB_scaled c_PB_scaled 3 { frames := 2, cells := 0, slots := 0, locals := 41 } [.ref h0, .int x, .int y] G k sz [(h0, .inr (0, [.ref b, .ref re, .ref ru, .ref ne, .ref so, .ref be, .int 0, .int (-2), .int 0])), (be, .inr (3, [.ref bp, .ref bu, .ref bs, .ref bf, .ref bq, .ref br, .int 0, .int 0]))] (fun (r : Int64) (_ : Unit) => r = (-2)) (fun _ => []) 0 0 := by
  refine met_start (by decide) (Nat.le_of_ble_eq_true rfl) ?_
  intro p e s m below meth c C K hA hsz S ls hl
  generalize va_A [(h0, .inr (0, [.ref b, .ref re, .ref ru, .ref ne, .ref so, .ref be, .int 0, .int (-2), .int 0])), (be, .inr (3, [.ref bp, .ref bu, .ref bs, .ref bf, .ref bq, .ref br, .int 0, .int 0]))] sz = A at hA S ⊢
  have hx := C.1
  have hb := C.2.1
  have hl : lv_has ls 3 [(0, .ref h0), (1, .int x), (2, .int y)] := hl
  refine lv_iload_n hx hb d_PB_scaled_0 rfl (lv_at hl 2 rfl) ?_
  refine lv_if_lt (tgt := 21) hx hb d_PB_scaled_1 (by decide) (fun hc1 => ?_) (fun hc1 => ?_)
  · refine lv_ldc2 (v := (-2)) hx hb C.2.2.2.1 (C.2.2.2.2.1 _ wk_PB_136) d_PB_scaled_21 ?_
    exact r_lret C K () rfl (S.sub [] rfl rfl) d_PB_scaled_24 (Nat.le_of_ble_eq_true rfl) (Nat.le_of_ble_eq_true rfl)
  · refine lv_iload_n hx hb d_PB_scaled_4 rfl (lv_at hl 2 rfl) ?_
    refine lv_bipush (v := 40) hx hb d_PB_scaled_5 (by decide) ?_
    refine lv_icmp_gt (tgt := 21) hx hb d_PB_scaled_7 (by decide) (fun hc2 => ?_) (fun hc2 => ?_)
    · refine lv_ldc2 (v := (-2)) hx hb C.2.2.2.1 (C.2.2.2.2.1 _ wk_PB_136) d_PB_scaled_21 ?_
      exact r_lret C K () rfl (S.sub [] rfl rfl) d_PB_scaled_24 (Nat.le_of_ble_eq_true rfl) (Nat.le_of_ble_eq_true rfl)
    · refine lv_aload_n hx hb d_PB_scaled_10 rfl (lv_at hl 0 rfl) ?_
      refine r_get C K S 0 rfl rfl clOk_PB 5 (by decide) wf_PB_25 (v := .ref be) rfl d_PB_scaled_11 ?_
      refine lv_iload_n hx hb d_PB_scaled_14 rfl (lv_at hl 1 rfl) ?_
      refine r_backi (wi := [(be, .inr (3, [.ref bp, .ref bu, .ref bs, .ref bf, .ref bq, .ref br, .int 0, .int 0]))]) (wr := [(h0, .inr (0, [.ref b, .ref re, .ref ru, .ref ne, .ref so, .ref be, .int 0, .int (-2), .int 0]))]) S hA [1] [0] rfl rfl (by decide) (by decide) (va_runVN (As := [.int x]) (rest := []) ⟨hx, hb, C.2.2.1, C.2.2.2.1, C.2.2.2.2.1⟩ (f_Be_has l G k be _ bp bu bs bf bq br x) (k_virtN (n := 1) C K wc_Be_has rfl rfl wz_Be xm_PB_133 wn_Be_has ws_Be_has (by decide +kernel) ⟨(Nat.le_of_ble_eq_true rfl), (Nat.le_of_ble_eq_true rfl)⟩) (pr_nowV K S [1] (by decide) rfl 1 rfl rfl) rfl rfl hl.1 rfl (lv_room (Nat.le_of_ble_eq_true rfl)) d_PB_scaled_15 ⟨(Nat.le_of_ble_eq_true rfl), (Nat.le_of_ble_eq_true rfl)⟩) (fun r5 u3 H locs hw4 S => ?_)
      have S : Sw G A s.heap _ _ [(h0, .inr (0, [.ref b, .ref re, .ref ru, .ref ne, .ref so, .ref be, .int 0, .int (-2), .int 0])), (be, .inr (3, [.ref bp, .ref bu, .ref bs, .ref bf, .ref bq, .ref br, .int 0, .int 0]))] := S
      have hw4 : r5 = 0 := hw4
      subst hw4
      refine lv_if_ne (tgt := 25) hx hb d_PB_scaled_18 (by decide) (fun hq => absurd (by decide) hq) (fun _ => ?_)
      refine lv_ldc2 (v := (-2)) hx hb C.2.2.2.1 (C.2.2.2.2.1 _ wk_PB_136) d_PB_scaled_21 ?_
      exact r_lret C K () rfl (S.sub [] rfl rfl) d_PB_scaled_24 (Nat.le_of_ble_eq_true rfl) (Nat.le_of_ble_eq_true rfl)
theorem d_PB_covers_0 : decode c_PB_covers 0 = .ok (.aload_n 0, 1) := by decide +kernel
theorem d_PB_covers_1 : decode c_PB_covers 1 = .ok (.getfield 25, 3) := by decide +kernel
theorem d_PB_covers_4 : decode c_PB_covers 4 = .ok (.getfield 107, 3) := by decide +kernel
theorem d_PB_covers_7 : decode c_PB_covers 7 = .ok (.ifCond .eq 15, 3) := by decide +kernel
theorem d_PB_covers_22 : decode c_PB_covers 22 = .ok (.bipush (-2), 2) := by decide +kernel
theorem d_PB_covers_24 : decode c_PB_covers 24 = .ok (.ireturn, 1) := by decide +kernel
set_option maxRecDepth 100000 in
set_option maxHeartbeats 4000000 in
/-- covers() -/
theorem f_PB_covers (l : Launch) (G : va_G) (k : Nat → ClassId) (h0 sz : Nat) (b re ru ne so be : Nat) (bp bu bs bf bq br : Nat) (x y z : Int32) (n : Int64) : CI l y_PB_covers c_PB_covers 6 .int { frames := 1, cells := 0, slots := 0, locals := 20 } [.ref h0, .int x, .int y, .int z, .long n] G k sz [(h0, .inr (0, [.ref b, .ref re, .ref ru, .ref ne, .ref so, .ref be, .int 0, .int (-2), .int 0])), (be, .inr (3, [.ref bp, .ref bu, .ref bs, .ref bf, .ref bq, .ref br, .int 0, .int 0]))] (fun (r : Int32) (_ : Unit) => r = (-2)) (fun _ => []) 0 0 := by
  refine met_start (by decide) (Nat.le_of_ble_eq_true rfl) ?_
  intro p e s m below meth c C K hA hsz S ls hl
  generalize va_A [(h0, .inr (0, [.ref b, .ref re, .ref ru, .ref ne, .ref so, .ref be, .int 0, .int (-2), .int 0])), (be, .inr (3, [.ref bp, .ref bu, .ref bs, .ref bf, .ref bq, .ref br, .int 0, .int 0]))] sz = A at hA S ⊢
  have hx := C.1
  have hb := C.2.1
  have hl : lv_has ls 6 [(0, .ref h0), (1, .int x), (2, .int y), (3, .int z), (4, .long n)] := hl
  refine lv_aload_n hx hb d_PB_covers_0 rfl (lv_at hl 0 rfl) ?_
  refine r_get C K S 0 rfl rfl clOk_PB 5 (by decide) wf_PB_25 (v := .ref be) rfl d_PB_covers_1 ?_
  refine r_getN C K S 1 rfl rfl clOk_Be 6 (by decide) xf_PB_107 (v := .int 0) rfl d_PB_covers_4 ?_
  refine lv_if_eq (tgt := 22) hx hb d_PB_covers_7 (by decide) (fun _ => ?_) (fun hq => absurd (by decide) hq)
  refine lv_bipush (v := (-2)) hx hb d_PB_covers_22 (by decide) ?_
  exact r_iret C K rfl () rfl (S.sub [] rfl rfl) d_PB_covers_24 (Nat.le_of_ble_eq_true rfl) (Nat.le_of_ble_eq_true rfl)
/-- what function answers first -/
def fnr (x : Int32) : Int32 := if x < 0 then -1 else if x ≤ 3 then 0 else -1
theorem d_PB_function_0 : decode c_PB_function 0 = .ok (.iload_n 1, 1) := by decide +kernel
theorem d_PB_function_1 : decode c_PB_function 1 = .ok (.ifCond .lt 8, 3) := by decide +kernel
theorem d_PB_function_4 : decode c_PB_function 4 = .ok (.iload_n 1, 1) := by decide +kernel
theorem d_PB_function_5 : decode c_PB_function 5 = .ok (.iconst 3, 1) := by decide +kernel
theorem d_PB_function_6 : decode c_PB_function 6 = .ok (.if_icmp .le 5, 3) := by decide +kernel
theorem d_PB_function_9 : decode c_PB_function 9 = .ok (.iconst (-1), 1) := by decide +kernel
theorem d_PB_function_10 : decode c_PB_function 10 = .ok (.ireturn, 1) := by decide +kernel
theorem d_PB_function_11 : decode c_PB_function 11 = .ok (.aload_n 0, 1) := by decide +kernel
theorem d_PB_function_12 : decode c_PB_function 12 = .ok (.getfield 57, 3) := by decide +kernel
theorem d_PB_function_15 : decode c_PB_function 15 = .ok (.iconst 4, 1) := by decide +kernel
theorem d_PB_function_16 : decode c_PB_function 16 = .ok (.if_icmp .ne 6, 3) := by decide +kernel
theorem d_PB_function_22 : decode c_PB_function 22 = .ok (.aload_n 0, 1) := by decide +kernel
theorem d_PB_function_23 : decode c_PB_function 23 = .ok (.getfield 11, 3) := by decide +kernel
theorem d_PB_function_26 : decode c_PB_function 26 = .ok (.aload_n 0, 1) := by decide +kernel
theorem d_PB_function_27 : decode c_PB_function 27 = .ok (.getfield 57, 3) := by decide +kernel
theorem d_PB_function_30 : decode c_PB_function 30 = .ok (.aaload, 1) := by decide +kernel
theorem d_PB_function_31 : decode c_PB_function 31 = .ok (.iload_n 1, 1) := by decide +kernel
theorem d_PB_function_32 : decode c_PB_function 32 = .ok (.putfield 60, 3) := by decide +kernel
theorem d_PB_function_35 : decode c_PB_function 35 = .ok (.aload_n 0, 1) := by decide +kernel
theorem d_PB_function_36 : decode c_PB_function 36 = .ok (.dup, 1) := by decide +kernel
theorem d_PB_function_37 : decode c_PB_function 37 = .ok (.getfield 57, 3) := by decide +kernel
theorem d_PB_function_40 : decode c_PB_function 40 = .ok (.iconst 1, 1) := by decide +kernel
theorem d_PB_function_41 : decode c_PB_function 41 = .ok (.iadd, 1) := by decide +kernel
theorem d_PB_function_42 : decode c_PB_function 42 = .ok (.putfield 57, 3) := by decide +kernel
theorem d_PB_function_45 : decode c_PB_function 45 = .ok (.aload_n 0, 1) := by decide +kernel
theorem d_PB_function_46 : decode c_PB_function 46 = .ok (.getfield 57, 3) := by decide +kernel
theorem d_PB_function_49 : decode c_PB_function 49 = .ok (.iconst 1, 1) := by decide +kernel
theorem d_PB_function_50 : decode c_PB_function 50 = .ok (.isub, 1) := by decide +kernel
theorem d_PB_function_51 : decode c_PB_function 51 = .ok (.ireturn, 1) := by decide +kernel
set_option maxRecDepth 100000 in
set_option maxHeartbeats 4000000 in
/-- function() -/
theorem f_PB_function (l : Launch) (G : va_G) (k : Nat → ClassId) (h0 sz : Nat) (b re ru ne so be : Nat) (b0 ba bb bc bd bg bh : Nat) (f : Nat → Option Nat) (hf : f 0 = some b0) (x : Int32) : CI l y_PB_function c_PB_function 2 .int { frames := 1, cells := 0, slots := 0, locals := 20 } [.ref h0, .int x] G k sz [(h0, .inr (0, [.ref b, .ref re, .ref ru, .ref ne, .ref so, .ref be, .int 0, .int (-2), .int 0])), (b, .inl (k 3, 4, .inr (.inr (.inr (.inr f))))), (b0, .inr (4, [.ref ba, .ref bb, .ref bc, .ref bd, .ref bg, .ref bh, .int 0, .int 0, .int 0]))] (fun (r : Int32) (_ : Unit) => r = fnr x) (fun _ => []) 0 0 := by
  refine met_start (by decide) (Nat.le_of_ble_eq_true rfl) ?_
  intro p e s m below meth c C K hA hsz S ls hl
  generalize va_A [(h0, .inr (0, [.ref b, .ref re, .ref ru, .ref ne, .ref so, .ref be, .int 0, .int (-2), .int 0])), (b, .inl (k 3, 4, .inr (.inr (.inr (.inr f))))), (b0, .inr (4, [.ref ba, .ref bb, .ref bc, .ref bd, .ref bg, .ref bh, .int 0, .int 0, .int 0]))] sz = A at hA S ⊢
  have hx := C.1
  have hb := C.2.1
  have hl : lv_has ls 2 [(0, .ref h0), (1, .int x)] := hl
  refine lv_iload_n hx hb d_PB_function_0 rfl (lv_at hl 1 rfl) ?_
  refine lv_if_lt (tgt := 9) hx hb d_PB_function_1 (by decide) (fun hc1 => ?_) (fun hc1 => ?_)
  · refine lv_iconst (v := (-1)) hx hb d_PB_function_9 (by decide) ?_
    exact r_iret C K rfl () (by simp [fnr, hc1]) (S.sub [] rfl rfl) d_PB_function_10 (Nat.le_of_ble_eq_true rfl) (Nat.le_of_ble_eq_true rfl)
  · refine lv_iload_n hx hb d_PB_function_4 rfl (lv_at hl 1 rfl) ?_
    refine lv_iconst (v := 3) hx hb d_PB_function_5 (by decide) ?_
    refine lv_icmp_le (tgt := 11) hx hb d_PB_function_6 (by decide) (fun hc2 => ?_) (fun hc2 => ?_)
    · refine lv_aload_n hx hb d_PB_function_11 rfl (lv_at hl 0 rfl) ?_
      refine r_get C K S 0 rfl rfl clOk_PB 6 (by decide) wf_PB_57 (v := .int 0) rfl d_PB_function_12 ?_
      refine lv_iconst (v := 4) hx hb d_PB_function_15 (by decide) ?_
      refine lv_icmp_ne (tgt := 22) hx hb d_PB_function_16 (by decide) (fun _ => ?_) (fun hq => absurd hq (by decide))
      refine lv_aload_n hx hb d_PB_function_22 rfl (lv_at hl 0 rfl) ?_
      refine r_get C K S 0 rfl rfl clOk_PB 0 (by decide) wf_PB_11 (v := .ref b) rfl d_PB_function_23 ?_
      refine lv_aload_n hx hb d_PB_function_26 rfl (lv_at hl 0 rfl) ?_
      refine r_get C K S 0 rfl rfl clOk_PB 6 (by decide) wf_PB_57 (v := .int 0) rfl d_PB_function_27 ?_
      refine r_aald C K S 1 3 rfl rfl (i := 0) (by unfold vp_in; decide) (b := b0) (by rw [show (0 : Int32).toNatClampNeg = 0 from by decide]; exact hf) d_PB_function_30 ?_
      refine lv_iload_n hx hb d_PB_function_31 rfl (lv_at hl 1 rfl) ?_
      refine r_putN C K S 2 rfl rfl clOk_Bo 6 (by decide) xf_PB_60 rfl (ty := .int) (v := .int x) (by decide +kernel) rfl rfl (Nat.le_of_ble_eq_true rfl) (fs' := [.ref ba, .ref bb, .ref bc, .ref bd, .ref bg, .ref bh, .int x, .int 0, .int 0]) (ws' := [(h0, .inr (0, [.ref b, .ref re, .ref ru, .ref ne, .ref so, .ref be, .int 0, .int (-2), .int 0])), (b, .inl (k 3, 4, .inr (.inr (.inr (.inr f))))), (b0, .inr (4, [.ref ba, .ref bb, .ref bc, .ref bd, .ref bg, .ref bh, .int x, .int 0, .int 0]))]) rfl rfl d_PB_function_32 (fun H locs S => ?_)
      refine lv_aload_n hx hb d_PB_function_35 rfl (lv_at hl 0 rfl) ?_
      refine lv_dup hx hb d_PB_function_36 rfl ?_
      refine r_get C K S 0 rfl rfl clOk_PB 6 (by decide) wf_PB_57 (v := .int 0) rfl d_PB_function_37 ?_
      refine lv_iconst (v := 1) hx hb d_PB_function_40 (by decide) ?_
      refine lv_iadd hx hb d_PB_function_41 ?_
      rw [show (0 : Int32) + 1 = 1 from by decide]
      refine r_put C K S 0 rfl rfl clOk_PB 6 (by decide) wf_PB_57 rfl (ty := .int) (v := .int 1) (by decide +kernel) rfl rfl (Nat.le_of_ble_eq_true rfl) (fs' := [.ref b, .ref re, .ref ru, .ref ne, .ref so, .ref be, .int 1, .int (-2), .int 0]) (ws' := [(h0, .inr (0, [.ref b, .ref re, .ref ru, .ref ne, .ref so, .ref be, .int 1, .int (-2), .int 0])), (b, .inl (k 3, 4, .inr (.inr (.inr (.inr f))))), (b0, .inr (4, [.ref ba, .ref bb, .ref bc, .ref bd, .ref bg, .ref bh, .int x, .int 0, .int 0]))]) rfl rfl d_PB_function_42 (fun H locs S => ?_)
      refine lv_aload_n hx hb d_PB_function_45 rfl (lv_at hl 0 rfl) ?_
      refine r_get C K S 0 rfl rfl clOk_PB 6 (by decide) wf_PB_57 (v := .int 1) rfl d_PB_function_46 ?_
      refine lv_iconst (v := 1) hx hb d_PB_function_49 (by decide) ?_
      refine lv_isub hx hb d_PB_function_50 ?_
      rw [show (1 : Int32) - 1 = 0 from by decide]
      exact r_iret C K rfl () (by simp [fnr, hc1, hc2]) (S.sub [] rfl rfl) d_PB_function_51 (Nat.le_of_ble_eq_true rfl) (Nat.le_of_ble_eq_true rfl)
    · refine lv_iconst (v := (-1)) hx hb d_PB_function_9 (by decide) ?_
      exact r_iret C K rfl () (by simp [fnr, hc1, hc2]) (S.sub [] rfl rfl) d_PB_function_10 (Nat.le_of_ble_eq_true rfl) (Nat.le_of_ble_eq_true rfl)
theorem d_Mo_isFunction_0 : decode c_Mo_isFunction 0 = .ok (.iload_n 1, 1) := by decide +kernel
theorem d_Mo_isFunction_1 : decode c_Mo_isFunction 1 = .ok (.ifCond .lt 15, 3) := by decide +kernel
theorem d_Mo_isFunction_4 : decode c_Mo_isFunction 4 = .ok (.iload_n 1, 1) := by decide +kernel
theorem d_Mo_isFunction_5 : decode c_Mo_isFunction 5 = .ok (.aload_n 0, 1) := by decide +kernel
theorem d_Mo_isFunction_6 : decode c_Mo_isFunction 6 = .ok (.getfield 111, 3) := by decide +kernel
theorem d_Mo_isFunction_9 : decode c_Mo_isFunction 9 = .ok (.if_icmp .ge 7, 3) := by decide +kernel
theorem d_Mo_isFunction_16 : decode c_Mo_isFunction 16 = .ok (.iconst 0, 1) := by decide +kernel
theorem d_Mo_isFunction_17 : decode c_Mo_isFunction 17 = .ok (.ireturn, 1) := by decide +kernel
set_option maxRecDepth 100000 in
set_option maxHeartbeats 4000000 in
/-- isFunction: there is none -/
theorem f_Mo_isFunction (l : Launch) (G : va_G) (k : Nat → ClassId) (h0 sz : Nat) (ma : Nat → Nat) (x : Int32) : CI l y_Mo_isFunction c_Mo_isFunction 2 .boolean { frames := 1, cells := 0, slots := 0, locals := 20 } [.ref h0, .int x] G k sz [(h0, .inr (8, [.int 0, .ref (ma 0), .ref (ma 1), .ref (ma 2), .int (-2), .ref (ma 3), .ref (ma 4), .ref (ma 5), .ref (ma 6), .int 0, .long 0, .int (-2), .int 0, .ref (ma 7), .ref (ma 8), .ref (ma 9), .ref (ma 10), .ref (ma 11), .int 0, .ref (ma 12), .int 0, .int 0, .int 0, .int 0, .int 0, .int 0, .int 0, .ref (ma 13), .int 0, .int 0, .int 0, .int 0, .ref (ma 14), .ref (ma 15), .int 0, .ref (ma 16), .ref (ma 17), .ref (ma 18), .ref (ma 19), .ref (ma 20), .int 0, .ref (ma 21), .ref (ma 22), .ref (ma 23), .ref (ma 24), .ref (ma 25), .ref (ma 26), .ref (ma 27), .int 0, .int 0, .int 0, .int 0, .int 0, .int 0, .int 0, .ref (ma 28), .ref (ma 29), .int 0, .int 0, .int 0, .int 0]))] (fun (r : Int32) (_ : Unit) => r = 0) (fun _ => [(h0, .inr (8, [.int 0, .ref (ma 0), .ref (ma 1), .ref (ma 2), .int (-2), .ref (ma 3), .ref (ma 4), .ref (ma 5), .ref (ma 6), .int 0, .long 0, .int (-2), .int 0, .ref (ma 7), .ref (ma 8), .ref (ma 9), .ref (ma 10), .ref (ma 11), .int 0, .ref (ma 12), .int 0, .int 0, .int 0, .int 0, .int 0, .int 0, .int 0, .ref (ma 13), .int 0, .int 0, .int 0, .int 0, .ref (ma 14), .ref (ma 15), .int 0, .ref (ma 16), .ref (ma 17), .ref (ma 18), .ref (ma 19), .ref (ma 20), .int 0, .ref (ma 21), .ref (ma 22), .ref (ma 23), .ref (ma 24), .ref (ma 25), .ref (ma 26), .ref (ma 27), .int 0, .int 0, .int 0, .int 0, .int 0, .int 0, .int 0, .ref (ma 28), .ref (ma 29), .int 0, .int 0, .int 0, .int 0]))]) 0 0 := by
  refine met_start (by decide) (Nat.le_of_ble_eq_true rfl) ?_
  intro p e s m below meth c C K hA hsz S ls hl
  generalize va_A [(h0, .inr (8, [.int 0, .ref (ma 0), .ref (ma 1), .ref (ma 2), .int (-2), .ref (ma 3), .ref (ma 4), .ref (ma 5), .ref (ma 6), .int 0, .long 0, .int (-2), .int 0, .ref (ma 7), .ref (ma 8), .ref (ma 9), .ref (ma 10), .ref (ma 11), .int 0, .ref (ma 12), .int 0, .int 0, .int 0, .int 0, .int 0, .int 0, .int 0, .ref (ma 13), .int 0, .int 0, .int 0, .int 0, .ref (ma 14), .ref (ma 15), .int 0, .ref (ma 16), .ref (ma 17), .ref (ma 18), .ref (ma 19), .ref (ma 20), .int 0, .ref (ma 21), .ref (ma 22), .ref (ma 23), .ref (ma 24), .ref (ma 25), .ref (ma 26), .ref (ma 27), .int 0, .int 0, .int 0, .int 0, .int 0, .int 0, .int 0, .ref (ma 28), .ref (ma 29), .int 0, .int 0, .int 0, .int 0]))] sz = A at hA S ⊢
  have hx := C.1
  have hb := C.2.1
  have hl : lv_has ls 2 [(0, .ref h0), (1, .int x)] := hl
  refine lv_iload_n hx hb d_Mo_isFunction_0 rfl (lv_at hl 1 rfl) ?_
  refine lv_if_lt (tgt := 16) hx hb d_Mo_isFunction_1 (by decide) (fun hc1 => ?_) (fun hc1 => ?_)
  · refine lv_iconst (v := 0) hx hb d_Mo_isFunction_16 (by decide) ?_
    exact r_iret C K rfl () rfl (S.sub [0] rfl rfl) d_Mo_isFunction_17 (Nat.le_of_ble_eq_true rfl) (Nat.le_of_ble_eq_true rfl)
  · refine lv_iload_n hx hb d_Mo_isFunction_4 rfl (lv_at hl 1 rfl) ?_
    refine lv_aload_n hx hb d_Mo_isFunction_5 rfl (lv_at hl 0 rfl) ?_
    refine r_get C K S 0 rfl rfl clOk_Mo 0 (by decide) wf_Mo_111 (v := .int 0) rfl d_Mo_isFunction_6 ?_
    refine lv_icmp_ge (tgt := 16) hx hb d_Mo_isFunction_9 (by decide) (fun _ => ?_) (fun hq => absurd (Int32.not_lt.mp hc1) hq)
    refine lv_iconst (v := 0) hx hb d_Mo_isFunction_16 (by decide) ?_
    exact r_iret C K rfl () rfl (S.sub [0] rfl rfl) d_Mo_isFunction_17 (Nat.le_of_ble_eq_true rfl) (Nat.le_of_ble_eq_true rfl)
theorem d_Mo_place_0 : decode c_Mo_place 0 = .ok (.aload_n 0, 1) := by decide +kernel
theorem d_Mo_place_1 : decode c_Mo_place 1 = .ok (.getfield 19, 3) := by decide +kernel
theorem d_Mo_place_4 : decode c_Mo_place 4 = .ok (.ireturn, 1) := by decide +kernel
set_option maxRecDepth 100000 in
set_option maxHeartbeats 4000000 in
/-- place() -/
theorem f_Mo_place (l : Launch) (G : va_G) (k : Nat → ClassId) (h0 sz : Nat) (ma : Nat → Nat) : CI l y_Mo_place c_Mo_place 1 .int { frames := 1, cells := 0, slots := 0, locals := 20 } [.ref h0] G k sz [(h0, .inr (8, [.int 0, .ref (ma 0), .ref (ma 1), .ref (ma 2), .int (-2), .ref (ma 3), .ref (ma 4), .ref (ma 5), .ref (ma 6), .int 0, .long 0, .int (-2), .int 0, .ref (ma 7), .ref (ma 8), .ref (ma 9), .ref (ma 10), .ref (ma 11), .int 0, .ref (ma 12), .int 0, .int 0, .int 0, .int 0, .int 0, .int 0, .int 0, .ref (ma 13), .int 0, .int 0, .int 0, .int 0, .ref (ma 14), .ref (ma 15), .int 0, .ref (ma 16), .ref (ma 17), .ref (ma 18), .ref (ma 19), .ref (ma 20), .int 0, .ref (ma 21), .ref (ma 22), .ref (ma 23), .ref (ma 24), .ref (ma 25), .ref (ma 26), .ref (ma 27), .int 0, .int 0, .int 0, .int 0, .int 0, .int 0, .int 0, .ref (ma 28), .ref (ma 29), .int 0, .int 0, .int 0, .int 0]))] (fun (r : Int32) (_ : Unit) => r = (-2)) (fun _ => []) 0 0 := by
  refine met_start (by decide) (Nat.le_of_ble_eq_true rfl) ?_
  intro p e s m below meth c C K hA hsz S ls hl
  generalize va_A [(h0, .inr (8, [.int 0, .ref (ma 0), .ref (ma 1), .ref (ma 2), .int (-2), .ref (ma 3), .ref (ma 4), .ref (ma 5), .ref (ma 6), .int 0, .long 0, .int (-2), .int 0, .ref (ma 7), .ref (ma 8), .ref (ma 9), .ref (ma 10), .ref (ma 11), .int 0, .ref (ma 12), .int 0, .int 0, .int 0, .int 0, .int 0, .int 0, .int 0, .ref (ma 13), .int 0, .int 0, .int 0, .int 0, .ref (ma 14), .ref (ma 15), .int 0, .ref (ma 16), .ref (ma 17), .ref (ma 18), .ref (ma 19), .ref (ma 20), .int 0, .ref (ma 21), .ref (ma 22), .ref (ma 23), .ref (ma 24), .ref (ma 25), .ref (ma 26), .ref (ma 27), .int 0, .int 0, .int 0, .int 0, .int 0, .int 0, .int 0, .ref (ma 28), .ref (ma 29), .int 0, .int 0, .int 0, .int 0]))] sz = A at hA S ⊢
  have hx := C.1
  have hb := C.2.1
  have hl : lv_has ls 1 [(0, .ref h0)] := hl
  refine lv_aload_n hx hb d_Mo_place_0 rfl (lv_at hl 0 rfl) ?_
  refine r_get C K S 0 rfl rfl clOk_Mo 4 (by decide) wf_Mo_19 (v := .int (-2)) rfl d_Mo_place_1 ?_
  exact r_iret C K rfl () rfl (S.sub [] rfl rfl) d_Mo_place_4 (Nat.le_of_ble_eq_true rfl) (Nat.le_of_ble_eq_true rfl)
theorem d_Mo_word_0 : decode c_Mo_word 0 = .ok (.aload_n 0, 1) := by decide +kernel
theorem d_Mo_word_1 : decode c_Mo_word 1 = .ok (.iload_n 1, 1) := by decide +kernel
theorem d_Mo_word_2 : decode c_Mo_word 2 = .ok (.invokevirtual 114, 3) := by decide +kernel
theorem d_Mo_word_5 : decode c_Mo_word 5 = .ok (.ifCond .ne 5, 3) := by decide +kernel
theorem d_Mo_word_8 : decode c_Mo_word 8 = .ok (.iconst (-1), 1) := by decide +kernel
theorem d_Mo_word_9 : decode c_Mo_word 9 = .ok (.ireturn, 1) := by decide +kernel
set_option maxRecDepth 100000 in
set_option maxHeartbeats 4000000 in
/-- word() -/
theorem f_Mo_word (l : Launch) (G : va_G) (k : Nat → ClassId) (h0 sz : Nat) (ma : Nat → Nat) (x y : Int32) : CI l y_Mo_word c_Mo_word 3 .int { frames := 2, cells := 0, slots := 0, locals := 41 } [.ref h0, .int x, .int y] G k sz [(h0, .inr (8, [.int 0, .ref (ma 0), .ref (ma 1), .ref (ma 2), .int (-2), .ref (ma 3), .ref (ma 4), .ref (ma 5), .ref (ma 6), .int 0, .long 0, .int (-2), .int 0, .ref (ma 7), .ref (ma 8), .ref (ma 9), .ref (ma 10), .ref (ma 11), .int 0, .ref (ma 12), .int 0, .int 0, .int 0, .int 0, .int 0, .int 0, .int 0, .ref (ma 13), .int 0, .int 0, .int 0, .int 0, .ref (ma 14), .ref (ma 15), .int 0, .ref (ma 16), .ref (ma 17), .ref (ma 18), .ref (ma 19), .ref (ma 20), .int 0, .ref (ma 21), .ref (ma 22), .ref (ma 23), .ref (ma 24), .ref (ma 25), .ref (ma 26), .ref (ma 27), .int 0, .int 0, .int 0, .int 0, .int 0, .int 0, .int 0, .ref (ma 28), .ref (ma 29), .int 0, .int 0, .int 0, .int 0]))] (fun (r : Int32) (_ : Unit) => r = (-1)) (fun _ => []) 0 0 := by
  refine met_start (by decide) (Nat.le_of_ble_eq_true rfl) ?_
  intro p e s m below meth c C K hA hsz S ls hl
  generalize va_A [(h0, .inr (8, [.int 0, .ref (ma 0), .ref (ma 1), .ref (ma 2), .int (-2), .ref (ma 3), .ref (ma 4), .ref (ma 5), .ref (ma 6), .int 0, .long 0, .int (-2), .int 0, .ref (ma 7), .ref (ma 8), .ref (ma 9), .ref (ma 10), .ref (ma 11), .int 0, .ref (ma 12), .int 0, .int 0, .int 0, .int 0, .int 0, .int 0, .int 0, .ref (ma 13), .int 0, .int 0, .int 0, .int 0, .ref (ma 14), .ref (ma 15), .int 0, .ref (ma 16), .ref (ma 17), .ref (ma 18), .ref (ma 19), .ref (ma 20), .int 0, .ref (ma 21), .ref (ma 22), .ref (ma 23), .ref (ma 24), .ref (ma 25), .ref (ma 26), .ref (ma 27), .int 0, .int 0, .int 0, .int 0, .int 0, .int 0, .int 0, .ref (ma 28), .ref (ma 29), .int 0, .int 0, .int 0, .int 0]))] sz = A at hA S ⊢
  have hx := C.1
  have hb := C.2.1
  have hl : lv_has ls 3 [(0, .ref h0), (1, .int x), (2, .int y)] := hl
  refine lv_aload_n hx hb d_Mo_word_0 rfl (lv_at hl 0 rfl) ?_
  refine lv_iload_n hx hb d_Mo_word_1 rfl (lv_at hl 1 rfl) ?_
  refine r_backi (wi := [(h0, .inr (8, [.int 0, .ref (ma 0), .ref (ma 1), .ref (ma 2), .int (-2), .ref (ma 3), .ref (ma 4), .ref (ma 5), .ref (ma 6), .int 0, .long 0, .int (-2), .int 0, .ref (ma 7), .ref (ma 8), .ref (ma 9), .ref (ma 10), .ref (ma 11), .int 0, .ref (ma 12), .int 0, .int 0, .int 0, .int 0, .int 0, .int 0, .int 0, .ref (ma 13), .int 0, .int 0, .int 0, .int 0, .ref (ma 14), .ref (ma 15), .int 0, .ref (ma 16), .ref (ma 17), .ref (ma 18), .ref (ma 19), .ref (ma 20), .int 0, .ref (ma 21), .ref (ma 22), .ref (ma 23), .ref (ma 24), .ref (ma 25), .ref (ma 26), .ref (ma 27), .int 0, .int 0, .int 0, .int 0, .int 0, .int 0, .int 0, .ref (ma 28), .ref (ma 29), .int 0, .int 0, .int 0, .int 0]))]) (wr := []) S hA [0] [] rfl rfl (by decide) (by decide) (va_runV (As := [.int x]) (rest := []) ⟨hx, hb, C.2.2.1, C.2.2.2.1, C.2.2.2.2.1⟩ (f_Mo_isFunction l G k h0 _ ma x) (k_virt (n := 1) C wc_Mo_isFunction rfl rfl wz_Mo wm_Mo_114 wn_Mo_isFunction ws_Mo_isFunction (by decide +kernel) ⟨(Nat.le_of_ble_eq_true rfl), (Nat.le_of_ble_eq_true rfl)⟩) (pr_nowV K S [0] (by decide) rfl 0 rfl rfl) rfl rfl hl.1 rfl (lv_room (Nat.le_of_ble_eq_true rfl)) d_Mo_word_2 ⟨(Nat.le_of_ble_eq_true rfl), (Nat.le_of_ble_eq_true rfl)⟩) (fun r3 u1 H locs hw2 S => ?_)
  have S : Sw G A s.heap _ _ [(h0, .inr (8, [.int 0, .ref (ma 0), .ref (ma 1), .ref (ma 2), .int (-2), .ref (ma 3), .ref (ma 4), .ref (ma 5), .ref (ma 6), .int 0, .long 0, .int (-2), .int 0, .ref (ma 7), .ref (ma 8), .ref (ma 9), .ref (ma 10), .ref (ma 11), .int 0, .ref (ma 12), .int 0, .int 0, .int 0, .int 0, .int 0, .int 0, .int 0, .ref (ma 13), .int 0, .int 0, .int 0, .int 0, .ref (ma 14), .ref (ma 15), .int 0, .ref (ma 16), .ref (ma 17), .ref (ma 18), .ref (ma 19), .ref (ma 20), .int 0, .ref (ma 21), .ref (ma 22), .ref (ma 23), .ref (ma 24), .ref (ma 25), .ref (ma 26), .ref (ma 27), .int 0, .int 0, .int 0, .int 0, .int 0, .int 0, .int 0, .ref (ma 28), .ref (ma 29), .int 0, .int 0, .int 0, .int 0]))] := S
  have hw2 : r3 = 0 := hw2
  subst hw2
  refine lv_if_ne (tgt := 10) hx hb d_Mo_word_5 (by decide) (fun hq => absurd (by decide) hq) (fun _ => ?_)
  refine lv_iconst (v := (-1)) hx hb d_Mo_word_8 (by decide) ?_
  exact r_iret C K rfl () rfl (S.sub [] rfl rfl) d_Mo_word_9 (Nat.le_of_ble_eq_true rfl) (Nat.le_of_ble_eq_true rfl)
theorem d_Mo_cut_0 : decode c_Mo_cut 0 = .ok (.aload_n 0, 1) := by decide +kernel
theorem d_Mo_cut_1 : decode c_Mo_cut 1 = .ok (.iload_n 1, 1) := by decide +kernel
theorem d_Mo_cut_2 : decode c_Mo_cut 2 = .ok (.invokevirtual 114, 3) := by decide +kernel
theorem d_Mo_cut_5 : decode c_Mo_cut 5 = .ok (.ifCond .eq 17, 3) := by decide +kernel
theorem d_Mo_cut_22 : decode c_Mo_cut 22 = .ok (.iconst 0, 1) := by decide +kernel
theorem d_Mo_cut_23 : decode c_Mo_cut 23 = .ok (.ireturn, 1) := by decide +kernel
set_option maxRecDepth 100000 in
set_option maxHeartbeats 4000000 in
/-- cut() -/
theorem f_Mo_cut (l : Launch) (G : va_G) (k : Nat → ClassId) (h0 sz : Nat) (ma : Nat → Nat) (x y : Int32) : CI l y_Mo_cut c_Mo_cut 3 .boolean { frames := 2, cells := 0, slots := 0, locals := 41 } [.ref h0, .int x, .int y] G k sz [(h0, .inr (8, [.int 0, .ref (ma 0), .ref (ma 1), .ref (ma 2), .int (-2), .ref (ma 3), .ref (ma 4), .ref (ma 5), .ref (ma 6), .int 0, .long 0, .int (-2), .int 0, .ref (ma 7), .ref (ma 8), .ref (ma 9), .ref (ma 10), .ref (ma 11), .int 0, .ref (ma 12), .int 0, .int 0, .int 0, .int 0, .int 0, .int 0, .int 0, .ref (ma 13), .int 0, .int 0, .int 0, .int 0, .ref (ma 14), .ref (ma 15), .int 0, .ref (ma 16), .ref (ma 17), .ref (ma 18), .ref (ma 19), .ref (ma 20), .int 0, .ref (ma 21), .ref (ma 22), .ref (ma 23), .ref (ma 24), .ref (ma 25), .ref (ma 26), .ref (ma 27), .int 0, .int 0, .int 0, .int 0, .int 0, .int 0, .int 0, .ref (ma 28), .ref (ma 29), .int 0, .int 0, .int 0, .int 0]))] (fun (r : Int32) (_ : Unit) => r = 0) (fun _ => []) 0 0 := by
  refine met_start (by decide) (Nat.le_of_ble_eq_true rfl) ?_
  intro p e s m below meth c C K hA hsz S ls hl
  generalize va_A [(h0, .inr (8, [.int 0, .ref (ma 0), .ref (ma 1), .ref (ma 2), .int (-2), .ref (ma 3), .ref (ma 4), .ref (ma 5), .ref (ma 6), .int 0, .long 0, .int (-2), .int 0, .ref (ma 7), .ref (ma 8), .ref (ma 9), .ref (ma 10), .ref (ma 11), .int 0, .ref (ma 12), .int 0, .int 0, .int 0, .int 0, .int 0, .int 0, .int 0, .ref (ma 13), .int 0, .int 0, .int 0, .int 0, .ref (ma 14), .ref (ma 15), .int 0, .ref (ma 16), .ref (ma 17), .ref (ma 18), .ref (ma 19), .ref (ma 20), .int 0, .ref (ma 21), .ref (ma 22), .ref (ma 23), .ref (ma 24), .ref (ma 25), .ref (ma 26), .ref (ma 27), .int 0, .int 0, .int 0, .int 0, .int 0, .int 0, .int 0, .ref (ma 28), .ref (ma 29), .int 0, .int 0, .int 0, .int 0]))] sz = A at hA S ⊢
  have hx := C.1
  have hb := C.2.1
  have hl : lv_has ls 3 [(0, .ref h0), (1, .int x), (2, .int y)] := hl
  refine lv_aload_n hx hb d_Mo_cut_0 rfl (lv_at hl 0 rfl) ?_
  refine lv_iload_n hx hb d_Mo_cut_1 rfl (lv_at hl 1 rfl) ?_
  refine r_backi (wi := [(h0, .inr (8, [.int 0, .ref (ma 0), .ref (ma 1), .ref (ma 2), .int (-2), .ref (ma 3), .ref (ma 4), .ref (ma 5), .ref (ma 6), .int 0, .long 0, .int (-2), .int 0, .ref (ma 7), .ref (ma 8), .ref (ma 9), .ref (ma 10), .ref (ma 11), .int 0, .ref (ma 12), .int 0, .int 0, .int 0, .int 0, .int 0, .int 0, .int 0, .ref (ma 13), .int 0, .int 0, .int 0, .int 0, .ref (ma 14), .ref (ma 15), .int 0, .ref (ma 16), .ref (ma 17), .ref (ma 18), .ref (ma 19), .ref (ma 20), .int 0, .ref (ma 21), .ref (ma 22), .ref (ma 23), .ref (ma 24), .ref (ma 25), .ref (ma 26), .ref (ma 27), .int 0, .int 0, .int 0, .int 0, .int 0, .int 0, .int 0, .ref (ma 28), .ref (ma 29), .int 0, .int 0, .int 0, .int 0]))]) (wr := []) S hA [0] [] rfl rfl (by decide) (by decide) (va_runV (As := [.int x]) (rest := []) ⟨hx, hb, C.2.2.1, C.2.2.2.1, C.2.2.2.2.1⟩ (f_Mo_isFunction l G k h0 _ ma x) (k_virt (n := 1) C wc_Mo_isFunction rfl rfl wz_Mo wm_Mo_114 wn_Mo_isFunction ws_Mo_isFunction (by decide +kernel) ⟨(Nat.le_of_ble_eq_true rfl), (Nat.le_of_ble_eq_true rfl)⟩) (pr_nowV K S [0] (by decide) rfl 0 rfl rfl) rfl rfl hl.1 rfl (lv_room (Nat.le_of_ble_eq_true rfl)) d_Mo_cut_2 ⟨(Nat.le_of_ble_eq_true rfl), (Nat.le_of_ble_eq_true rfl)⟩) (fun r3 u1 H locs hw2 S => ?_)
  have S : Sw G A s.heap _ _ [(h0, .inr (8, [.int 0, .ref (ma 0), .ref (ma 1), .ref (ma 2), .int (-2), .ref (ma 3), .ref (ma 4), .ref (ma 5), .ref (ma 6), .int 0, .long 0, .int (-2), .int 0, .ref (ma 7), .ref (ma 8), .ref (ma 9), .ref (ma 10), .ref (ma 11), .int 0, .ref (ma 12), .int 0, .int 0, .int 0, .int 0, .int 0, .int 0, .int 0, .ref (ma 13), .int 0, .int 0, .int 0, .int 0, .ref (ma 14), .ref (ma 15), .int 0, .ref (ma 16), .ref (ma 17), .ref (ma 18), .ref (ma 19), .ref (ma 20), .int 0, .ref (ma 21), .ref (ma 22), .ref (ma 23), .ref (ma 24), .ref (ma 25), .ref (ma 26), .ref (ma 27), .int 0, .int 0, .int 0, .int 0, .int 0, .int 0, .int 0, .ref (ma 28), .ref (ma 29), .int 0, .int 0, .int 0, .int 0]))] := S
  have hw2 : r3 = 0 := hw2
  subst hw2
  refine lv_if_eq (tgt := 22) hx hb d_Mo_cut_5 (by decide) (fun _ => ?_) (fun hq => absurd (by decide) hq)
  refine lv_iconst (v := 0) hx hb d_Mo_cut_22 (by decide) ?_
  exact r_iret C K rfl () rfl (S.sub [] rfl rfl) d_Mo_cut_23 (Nat.le_of_ble_eq_true rfl) (Nat.le_of_ble_eq_true rfl)
theorem d_Mo_look_0 : decode c_Mo_look 0 = .ok (.aload_n 0, 1) := by decide +kernel
theorem d_Mo_look_1 : decode c_Mo_look 1 = .ok (.bipush (-2), 2) := by decide +kernel
theorem d_Mo_look_3 : decode c_Mo_look 3 = .ok (.putfield 19, 3) := by decide +kernel
theorem d_Mo_look_6 : decode c_Mo_look 6 = .ok (.iconst 0, 1) := by decide +kernel
theorem d_Mo_look_7 : decode c_Mo_look 7 = .ok (.istore_n 1, 1) := by decide +kernel
theorem d_Mo_look_8 : decode c_Mo_look 8 = .ok (.iload_n 1, 1) := by decide +kernel
theorem d_Mo_look_9 : decode c_Mo_look 9 = .ok (.aload_n 0, 1) := by decide +kernel
theorem d_Mo_look_10 : decode c_Mo_look 10 = .ok (.getfield 111, 3) := by decide +kernel
theorem d_Mo_look_13 : decode c_Mo_look 13 = .ok (.if_icmp .ge 31, 3) := by decide +kernel
theorem d_Mo_look_44 : decode c_Mo_look 44 = .ok (.iconst 0, 1) := by decide +kernel
theorem d_Mo_look_45 : decode c_Mo_look 45 = .ok (.ireturn, 1) := by decide +kernel
set_option maxRecDepth 100000 in
set_option maxHeartbeats 4000000 in
/-- look() -/
theorem f_Mo_look (l : Launch) (G : va_G) (k : Nat → ClassId) (h0 sz : Nat) (ma : Nat → Nat) : CI l y_Mo_look c_Mo_look 3 .int { frames := 1, cells := 0, slots := 0, locals := 20 } [.ref h0] G k sz [(h0, .inr (8, [.int 0, .ref (ma 0), .ref (ma 1), .ref (ma 2), .int (-2), .ref (ma 3), .ref (ma 4), .ref (ma 5), .ref (ma 6), .int 0, .long 0, .int (-2), .int 0, .ref (ma 7), .ref (ma 8), .ref (ma 9), .ref (ma 10), .ref (ma 11), .int 0, .ref (ma 12), .int 0, .int 0, .int 0, .int 0, .int 0, .int 0, .int 0, .ref (ma 13), .int 0, .int 0, .int 0, .int 0, .ref (ma 14), .ref (ma 15), .int 0, .ref (ma 16), .ref (ma 17), .ref (ma 18), .ref (ma 19), .ref (ma 20), .int 0, .ref (ma 21), .ref (ma 22), .ref (ma 23), .ref (ma 24), .ref (ma 25), .ref (ma 26), .ref (ma 27), .int 0, .int 0, .int 0, .int 0, .int 0, .int 0, .int 0, .ref (ma 28), .ref (ma 29), .int 0, .int 0, .int 0, .int 0]))] (fun (r : Int32) (_ : Unit) => r = 0) (fun _ => []) 0 0 := by
  refine met_start (by decide) (Nat.le_of_ble_eq_true rfl) ?_
  intro p e s m below meth c C K hA hsz S ls hl
  generalize va_A [(h0, .inr (8, [.int 0, .ref (ma 0), .ref (ma 1), .ref (ma 2), .int (-2), .ref (ma 3), .ref (ma 4), .ref (ma 5), .ref (ma 6), .int 0, .long 0, .int (-2), .int 0, .ref (ma 7), .ref (ma 8), .ref (ma 9), .ref (ma 10), .ref (ma 11), .int 0, .ref (ma 12), .int 0, .int 0, .int 0, .int 0, .int 0, .int 0, .int 0, .ref (ma 13), .int 0, .int 0, .int 0, .int 0, .ref (ma 14), .ref (ma 15), .int 0, .ref (ma 16), .ref (ma 17), .ref (ma 18), .ref (ma 19), .ref (ma 20), .int 0, .ref (ma 21), .ref (ma 22), .ref (ma 23), .ref (ma 24), .ref (ma 25), .ref (ma 26), .ref (ma 27), .int 0, .int 0, .int 0, .int 0, .int 0, .int 0, .int 0, .ref (ma 28), .ref (ma 29), .int 0, .int 0, .int 0, .int 0]))] sz = A at hA S ⊢
  have hx := C.1
  have hb := C.2.1
  have hl : lv_has ls 3 [(0, .ref h0)] := hl
  refine lv_aload_n hx hb d_Mo_look_0 rfl (lv_at hl 0 rfl) ?_
  refine lv_bipush (v := (-2)) hx hb d_Mo_look_1 (by decide) ?_
  refine r_put C K S 0 rfl rfl clOk_Mo 4 (by decide) wf_Mo_19 rfl (ty := .int) (v := .int (-2)) (by decide +kernel) rfl rfl (Nat.le_of_ble_eq_true rfl) (fs' := [.int 0, .ref (ma 0), .ref (ma 1), .ref (ma 2), .int (-2), .ref (ma 3), .ref (ma 4), .ref (ma 5), .ref (ma 6), .int 0, .long 0, .int (-2), .int 0, .ref (ma 7), .ref (ma 8), .ref (ma 9), .ref (ma 10), .ref (ma 11), .int 0, .ref (ma 12), .int 0, .int 0, .int 0, .int 0, .int 0, .int 0, .int 0, .ref (ma 13), .int 0, .int 0, .int 0, .int 0, .ref (ma 14), .ref (ma 15), .int 0, .ref (ma 16), .ref (ma 17), .ref (ma 18), .ref (ma 19), .ref (ma 20), .int 0, .ref (ma 21), .ref (ma 22), .ref (ma 23), .ref (ma 24), .ref (ma 25), .ref (ma 26), .ref (ma 27), .int 0, .int 0, .int 0, .int 0, .int 0, .int 0, .int 0, .ref (ma 28), .ref (ma 29), .int 0, .int 0, .int 0, .int 0]) (ws' := [(h0, .inr (8, [.int 0, .ref (ma 0), .ref (ma 1), .ref (ma 2), .int (-2), .ref (ma 3), .ref (ma 4), .ref (ma 5), .ref (ma 6), .int 0, .long 0, .int (-2), .int 0, .ref (ma 7), .ref (ma 8), .ref (ma 9), .ref (ma 10), .ref (ma 11), .int 0, .ref (ma 12), .int 0, .int 0, .int 0, .int 0, .int 0, .int 0, .int 0, .ref (ma 13), .int 0, .int 0, .int 0, .int 0, .ref (ma 14), .ref (ma 15), .int 0, .ref (ma 16), .ref (ma 17), .ref (ma 18), .ref (ma 19), .ref (ma 20), .int 0, .ref (ma 21), .ref (ma 22), .ref (ma 23), .ref (ma 24), .ref (ma 25), .ref (ma 26), .ref (ma 27), .int 0, .int 0, .int 0, .int 0, .int 0, .int 0, .int 0, .ref (ma 28), .ref (ma 29), .int 0, .int 0, .int 0, .int 0]))]) rfl rfl d_Mo_look_3 (fun H locs S => ?_)
  refine lv_iconst (v := 0) hx hb d_Mo_look_6 (by decide) ?_
  refine lv_istore_n (lv' := [(1, .int 0), (0, .ref h0)]) hx hb d_Mo_look_7 rfl hl (by decide) rfl (fun ls hl => ?_)
  refine lv_iload_n hx hb d_Mo_look_8 rfl (lv_at hl 0 rfl) ?_
  refine lv_aload_n hx hb d_Mo_look_9 rfl (lv_at hl 1 rfl) ?_
  refine r_get C K S 0 rfl rfl clOk_Mo 0 (by decide) wf_Mo_111 (v := .int 0) rfl d_Mo_look_10 ?_
  refine lv_icmp_ge (tgt := 44) hx hb d_Mo_look_13 (by decide) (fun _ => ?_) (fun hq => absurd (by decide) hq)
  refine lv_iconst (v := 0) hx hb d_Mo_look_44 (by decide) ?_
  exact r_iret C K rfl () rfl (S.sub [] rfl rfl) d_Mo_look_45 (Nat.le_of_ble_eq_true rfl) (Nat.le_of_ble_eq_true rfl)
theorem d_Mo_run_0 : decode c_Mo_run 0 = .ok (.aload_n 0, 1) := by decide +kernel
theorem d_Mo_run_1 : decode c_Mo_run 1 = .ok (.iload_n 1, 1) := by decide +kernel
theorem d_Mo_run_2 : decode c_Mo_run 2 = .ok (.invokevirtual 114, 3) := by decide +kernel
theorem d_Mo_run_5 : decode c_Mo_run 5 = .ok (.ifCond .eq 10, 3) := by decide +kernel
theorem d_Mo_run_15 : decode c_Mo_run 15 = .ok (.iconst (-1), 1) := by decide +kernel
theorem d_Mo_run_16 : decode c_Mo_run 16 = .ok (.ireturn, 1) := by decide +kernel
set_option maxRecDepth 100000 in
set_option maxHeartbeats 4000000 in
/-- run() -/
theorem f_Mo_run (l : Launch) (G : va_G) (k : Nat → ClassId) (h0 sz : Nat) (ma : Nat → Nat) (x y z v : Int32) : CI l y_Mo_run c_Mo_run 7 .int { frames := 2, cells := 0, slots := 0, locals := 41 } [.ref h0, .int x, .int y, .int z, .int v] G k sz [(h0, .inr (8, [.int 0, .ref (ma 0), .ref (ma 1), .ref (ma 2), .int (-2), .ref (ma 3), .ref (ma 4), .ref (ma 5), .ref (ma 6), .int 0, .long 0, .int (-2), .int 0, .ref (ma 7), .ref (ma 8), .ref (ma 9), .ref (ma 10), .ref (ma 11), .int 0, .ref (ma 12), .int 0, .int 0, .int 0, .int 0, .int 0, .int 0, .int 0, .ref (ma 13), .int 0, .int 0, .int 0, .int 0, .ref (ma 14), .ref (ma 15), .int 0, .ref (ma 16), .ref (ma 17), .ref (ma 18), .ref (ma 19), .ref (ma 20), .int 0, .ref (ma 21), .ref (ma 22), .ref (ma 23), .ref (ma 24), .ref (ma 25), .ref (ma 26), .ref (ma 27), .int 0, .int 0, .int 0, .int 0, .int 0, .int 0, .int 0, .ref (ma 28), .ref (ma 29), .int 0, .int 0, .int 0, .int 0]))] (fun (r : Int32) (_ : Unit) => r = (-1)) (fun _ => []) 0 0 := by
  refine met_start (by decide) (Nat.le_of_ble_eq_true rfl) ?_
  intro p e s m below meth c C K hA hsz S ls hl
  generalize va_A [(h0, .inr (8, [.int 0, .ref (ma 0), .ref (ma 1), .ref (ma 2), .int (-2), .ref (ma 3), .ref (ma 4), .ref (ma 5), .ref (ma 6), .int 0, .long 0, .int (-2), .int 0, .ref (ma 7), .ref (ma 8), .ref (ma 9), .ref (ma 10), .ref (ma 11), .int 0, .ref (ma 12), .int 0, .int 0, .int 0, .int 0, .int 0, .int 0, .int 0, .ref (ma 13), .int 0, .int 0, .int 0, .int 0, .ref (ma 14), .ref (ma 15), .int 0, .ref (ma 16), .ref (ma 17), .ref (ma 18), .ref (ma 19), .ref (ma 20), .int 0, .ref (ma 21), .ref (ma 22), .ref (ma 23), .ref (ma 24), .ref (ma 25), .ref (ma 26), .ref (ma 27), .int 0, .int 0, .int 0, .int 0, .int 0, .int 0, .int 0, .ref (ma 28), .ref (ma 29), .int 0, .int 0, .int 0, .int 0]))] sz = A at hA S ⊢
  have hx := C.1
  have hb := C.2.1
  have hl : lv_has ls 7 [(0, .ref h0), (1, .int x), (2, .int y), (3, .int z), (4, .int v)] := hl
  refine lv_aload_n hx hb d_Mo_run_0 rfl (lv_at hl 0 rfl) ?_
  refine lv_iload_n hx hb d_Mo_run_1 rfl (lv_at hl 1 rfl) ?_
  refine r_backi (wi := [(h0, .inr (8, [.int 0, .ref (ma 0), .ref (ma 1), .ref (ma 2), .int (-2), .ref (ma 3), .ref (ma 4), .ref (ma 5), .ref (ma 6), .int 0, .long 0, .int (-2), .int 0, .ref (ma 7), .ref (ma 8), .ref (ma 9), .ref (ma 10), .ref (ma 11), .int 0, .ref (ma 12), .int 0, .int 0, .int 0, .int 0, .int 0, .int 0, .int 0, .ref (ma 13), .int 0, .int 0, .int 0, .int 0, .ref (ma 14), .ref (ma 15), .int 0, .ref (ma 16), .ref (ma 17), .ref (ma 18), .ref (ma 19), .ref (ma 20), .int 0, .ref (ma 21), .ref (ma 22), .ref (ma 23), .ref (ma 24), .ref (ma 25), .ref (ma 26), .ref (ma 27), .int 0, .int 0, .int 0, .int 0, .int 0, .int 0, .int 0, .ref (ma 28), .ref (ma 29), .int 0, .int 0, .int 0, .int 0]))]) (wr := []) S hA [0] [] rfl rfl (by decide) (by decide) (va_runV (As := [.int x]) (rest := []) ⟨hx, hb, C.2.2.1, C.2.2.2.1, C.2.2.2.2.1⟩ (f_Mo_isFunction l G k h0 _ ma x) (k_virt (n := 1) C wc_Mo_isFunction rfl rfl wz_Mo wm_Mo_114 wn_Mo_isFunction ws_Mo_isFunction (by decide +kernel) ⟨(Nat.le_of_ble_eq_true rfl), (Nat.le_of_ble_eq_true rfl)⟩) (pr_nowV K S [0] (by decide) rfl 0 rfl rfl) rfl rfl hl.1 rfl (lv_room (Nat.le_of_ble_eq_true rfl)) d_Mo_run_2 ⟨(Nat.le_of_ble_eq_true rfl), (Nat.le_of_ble_eq_true rfl)⟩) (fun r3 u1 H locs hw2 S => ?_)
  have S : Sw G A s.heap _ _ [(h0, .inr (8, [.int 0, .ref (ma 0), .ref (ma 1), .ref (ma 2), .int (-2), .ref (ma 3), .ref (ma 4), .ref (ma 5), .ref (ma 6), .int 0, .long 0, .int (-2), .int 0, .ref (ma 7), .ref (ma 8), .ref (ma 9), .ref (ma 10), .ref (ma 11), .int 0, .ref (ma 12), .int 0, .int 0, .int 0, .int 0, .int 0, .int 0, .int 0, .ref (ma 13), .int 0, .int 0, .int 0, .int 0, .ref (ma 14), .ref (ma 15), .int 0, .ref (ma 16), .ref (ma 17), .ref (ma 18), .ref (ma 19), .ref (ma 20), .int 0, .ref (ma 21), .ref (ma 22), .ref (ma 23), .ref (ma 24), .ref (ma 25), .ref (ma 26), .ref (ma 27), .int 0, .int 0, .int 0, .int 0, .int 0, .int 0, .int 0, .ref (ma 28), .ref (ma 29), .int 0, .int 0, .int 0, .int 0]))] := S
  have hw2 : r3 = 0 := hw2
  subst hw2
  refine lv_if_eq (tgt := 15) hx hb d_Mo_run_5 (by decide) (fun _ => ?_) (fun hq => absurd (by decide) hq)
  refine lv_iconst (v := (-1)) hx hb d_Mo_run_15 (by decide) ?_
  exact r_iret C K rfl () rfl (S.sub [] rfl rfl) d_Mo_run_16 (Nat.le_of_ble_eq_true rfl) (Nat.le_of_ble_eq_true rfl)
theorem d_Mo_cost_0 : decode c_Mo_cost 0 = .ok (.aload_n 0, 1) := by decide +kernel
theorem d_Mo_cost_1 : decode c_Mo_cost 1 = .ok (.getfield 175, 3) := by decide +kernel
theorem d_Mo_cost_4 : decode c_Mo_cost 4 = .ok (.lreturn, 1) := by decide +kernel
set_option maxRecDepth 100000 in
set_option maxHeartbeats 4000000 in
/-- cost() -/
theorem f_Mo_cost (l : Launch) (G : va_G) (k : Nat → ClassId) (h0 sz : Nat) (ma : Nat → Nat) : CL l y_Mo_cost c_Mo_cost 1 { frames := 1, cells := 0, slots := 0, locals := 20 } [.ref h0] G k sz [(h0, .inr (8, [.int 0, .ref (ma 0), .ref (ma 1), .ref (ma 2), .int (-2), .ref (ma 3), .ref (ma 4), .ref (ma 5), .ref (ma 6), .int 0, .long 0, .int (-2), .int 0, .ref (ma 7), .ref (ma 8), .ref (ma 9), .ref (ma 10), .ref (ma 11), .int 0, .ref (ma 12), .int 0, .int 0, .int 0, .int 0, .int 0, .int 0, .int 0, .ref (ma 13), .int 0, .int 0, .int 0, .int 0, .ref (ma 14), .ref (ma 15), .int 0, .ref (ma 16), .ref (ma 17), .ref (ma 18), .ref (ma 19), .ref (ma 20), .int 0, .ref (ma 21), .ref (ma 22), .ref (ma 23), .ref (ma 24), .ref (ma 25), .ref (ma 26), .ref (ma 27), .int 0, .int 0, .int 0, .int 0, .int 0, .int 0, .int 0, .ref (ma 28), .ref (ma 29), .int 0, .int 0, .int 0, .int 0]))] (fun (r : Int64) (_ : Unit) => r = 0) (fun _ => []) 0 0 := by
  refine met_start (by decide) (Nat.le_of_ble_eq_true rfl) ?_
  intro p e s m below meth c C K hA hsz S ls hl
  generalize va_A [(h0, .inr (8, [.int 0, .ref (ma 0), .ref (ma 1), .ref (ma 2), .int (-2), .ref (ma 3), .ref (ma 4), .ref (ma 5), .ref (ma 6), .int 0, .long 0, .int (-2), .int 0, .ref (ma 7), .ref (ma 8), .ref (ma 9), .ref (ma 10), .ref (ma 11), .int 0, .ref (ma 12), .int 0, .int 0, .int 0, .int 0, .int 0, .int 0, .int 0, .ref (ma 13), .int 0, .int 0, .int 0, .int 0, .ref (ma 14), .ref (ma 15), .int 0, .ref (ma 16), .ref (ma 17), .ref (ma 18), .ref (ma 19), .ref (ma 20), .int 0, .ref (ma 21), .ref (ma 22), .ref (ma 23), .ref (ma 24), .ref (ma 25), .ref (ma 26), .ref (ma 27), .int 0, .int 0, .int 0, .int 0, .int 0, .int 0, .int 0, .ref (ma 28), .ref (ma 29), .int 0, .int 0, .int 0, .int 0]))] sz = A at hA S ⊢
  have hx := C.1
  have hb := C.2.1
  have hl : lv_has ls 1 [(0, .ref h0)] := hl
  refine lv_aload_n hx hb d_Mo_cost_0 rfl (lv_at hl 0 rfl) ?_
  refine r_get C K S 0 rfl rfl clOk_Mo 10 (by decide) wf_Mo_175 (v := .long 0) rfl d_Mo_cost_1 ?_
  exact r_lret C K () rfl (S.sub [] rfl rfl) d_Mo_cost_4 (Nat.le_of_ble_eq_true rfl) (Nat.le_of_ble_eq_true rfl)
theorem d_Mo_given_0 : decode c_Mo_given 0 = .ok (.aload_n 0, 1) := by decide +kernel
theorem d_Mo_given_1 : decode c_Mo_given 1 = .ok (.getfield 35, 3) := by decide +kernel
theorem d_Mo_given_4 : decode c_Mo_given 4 = .ok (.ireturn, 1) := by decide +kernel
set_option maxRecDepth 100000 in
set_option maxHeartbeats 4000000 in
/-- given() -/
theorem f_Mo_given (l : Launch) (G : va_G) (k : Nat → ClassId) (h0 sz : Nat) (ma : Nat → Nat) : CI l y_Mo_given c_Mo_given 1 .int { frames := 1, cells := 0, slots := 0, locals := 20 } [.ref h0] G k sz [(h0, .inr (8, [.int 0, .ref (ma 0), .ref (ma 1), .ref (ma 2), .int (-2), .ref (ma 3), .ref (ma 4), .ref (ma 5), .ref (ma 6), .int 0, .long 0, .int (-2), .int 0, .ref (ma 7), .ref (ma 8), .ref (ma 9), .ref (ma 10), .ref (ma 11), .int 0, .ref (ma 12), .int 0, .int 0, .int 0, .int 0, .int 0, .int 0, .int 0, .ref (ma 13), .int 0, .int 0, .int 0, .int 0, .ref (ma 14), .ref (ma 15), .int 0, .ref (ma 16), .ref (ma 17), .ref (ma 18), .ref (ma 19), .ref (ma 20), .int 0, .ref (ma 21), .ref (ma 22), .ref (ma 23), .ref (ma 24), .ref (ma 25), .ref (ma 26), .ref (ma 27), .int 0, .int 0, .int 0, .int 0, .int 0, .int 0, .int 0, .ref (ma 28), .ref (ma 29), .int 0, .int 0, .int 0, .int 0]))] (fun (r : Int32) (_ : Unit) => r = (-2)) (fun _ => []) 0 0 := by
  refine met_start (by decide) (Nat.le_of_ble_eq_true rfl) ?_
  intro p e s m below meth c C K hA hsz S ls hl
  generalize va_A [(h0, .inr (8, [.int 0, .ref (ma 0), .ref (ma 1), .ref (ma 2), .int (-2), .ref (ma 3), .ref (ma 4), .ref (ma 5), .ref (ma 6), .int 0, .long 0, .int (-2), .int 0, .ref (ma 7), .ref (ma 8), .ref (ma 9), .ref (ma 10), .ref (ma 11), .int 0, .ref (ma 12), .int 0, .int 0, .int 0, .int 0, .int 0, .int 0, .int 0, .ref (ma 13), .int 0, .int 0, .int 0, .int 0, .ref (ma 14), .ref (ma 15), .int 0, .ref (ma 16), .ref (ma 17), .ref (ma 18), .ref (ma 19), .ref (ma 20), .int 0, .ref (ma 21), .ref (ma 22), .ref (ma 23), .ref (ma 24), .ref (ma 25), .ref (ma 26), .ref (ma 27), .int 0, .int 0, .int 0, .int 0, .int 0, .int 0, .int 0, .ref (ma 28), .ref (ma 29), .int 0, .int 0, .int 0, .int 0]))] sz = A at hA S ⊢
  have hx := C.1
  have hb := C.2.1
  have hl : lv_has ls 1 [(0, .ref h0)] := hl
  refine lv_aload_n hx hb d_Mo_given_0 rfl (lv_at hl 0 rfl) ?_
  refine r_get C K S 0 rfl rfl clOk_Mo 11 (by decide) wf_Mo_35 (v := .int (-2)) rfl d_Mo_given_1 ?_
  exact r_iret C K rfl () rfl (S.sub [] rfl rfl) d_Mo_given_4 (Nat.le_of_ble_eq_true rfl) (Nat.le_of_ble_eq_true rfl)
theorem d_Mo_steps_0 : decode c_Mo_steps 0 = .ok (.aload_n 0, 1) := by decide +kernel
theorem d_Mo_steps_1 : decode c_Mo_steps 1 = .ok (.getfield 165, 3) := by decide +kernel
theorem d_Mo_steps_4 : decode c_Mo_steps 4 = .ok (.ireturn, 1) := by decide +kernel
set_option maxRecDepth 100000 in
set_option maxHeartbeats 4000000 in
/-- steps() -/
theorem f_Mo_steps (l : Launch) (G : va_G) (k : Nat → ClassId) (h0 sz : Nat) (ma : Nat → Nat) : CI l y_Mo_steps c_Mo_steps 1 .int { frames := 1, cells := 0, slots := 0, locals := 20 } [.ref h0] G k sz [(h0, .inr (8, [.int 0, .ref (ma 0), .ref (ma 1), .ref (ma 2), .int (-2), .ref (ma 3), .ref (ma 4), .ref (ma 5), .ref (ma 6), .int 0, .long 0, .int (-2), .int 0, .ref (ma 7), .ref (ma 8), .ref (ma 9), .ref (ma 10), .ref (ma 11), .int 0, .ref (ma 12), .int 0, .int 0, .int 0, .int 0, .int 0, .int 0, .int 0, .ref (ma 13), .int 0, .int 0, .int 0, .int 0, .ref (ma 14), .ref (ma 15), .int 0, .ref (ma 16), .ref (ma 17), .ref (ma 18), .ref (ma 19), .ref (ma 20), .int 0, .ref (ma 21), .ref (ma 22), .ref (ma 23), .ref (ma 24), .ref (ma 25), .ref (ma 26), .ref (ma 27), .int 0, .int 0, .int 0, .int 0, .int 0, .int 0, .int 0, .ref (ma 28), .ref (ma 29), .int 0, .int 0, .int 0, .int 0]))] (fun (r : Int32) (_ : Unit) => r = 0) (fun _ => []) 0 0 := by
  refine met_start (by decide) (Nat.le_of_ble_eq_true rfl) ?_
  intro p e s m below meth c C K hA hsz S ls hl
  generalize va_A [(h0, .inr (8, [.int 0, .ref (ma 0), .ref (ma 1), .ref (ma 2), .int (-2), .ref (ma 3), .ref (ma 4), .ref (ma 5), .ref (ma 6), .int 0, .long 0, .int (-2), .int 0, .ref (ma 7), .ref (ma 8), .ref (ma 9), .ref (ma 10), .ref (ma 11), .int 0, .ref (ma 12), .int 0, .int 0, .int 0, .int 0, .int 0, .int 0, .int 0, .ref (ma 13), .int 0, .int 0, .int 0, .int 0, .ref (ma 14), .ref (ma 15), .int 0, .ref (ma 16), .ref (ma 17), .ref (ma 18), .ref (ma 19), .ref (ma 20), .int 0, .ref (ma 21), .ref (ma 22), .ref (ma 23), .ref (ma 24), .ref (ma 25), .ref (ma 26), .ref (ma 27), .int 0, .int 0, .int 0, .int 0, .int 0, .int 0, .int 0, .ref (ma 28), .ref (ma 29), .int 0, .int 0, .int 0, .int 0]))] sz = A at hA S ⊢
  have hx := C.1
  have hb := C.2.1
  have hl : lv_has ls 1 [(0, .ref h0)] := hl
  refine lv_aload_n hx hb d_Mo_steps_0 rfl (lv_at hl 0 rfl) ?_
  refine r_get C K S 0 rfl rfl clOk_Mo 12 (by decide) wf_Mo_165 (v := .int 0) rfl d_Mo_steps_1 ?_
  exact r_iret C K rfl () rfl (S.sub [] rfl rfl) d_Mo_steps_4 (Nat.le_of_ble_eq_true rfl) (Nat.le_of_ble_eq_true rfl)
theorem d_Mo_bound_0 : decode c_Mo_bound 0 = .ok (.aload_n 0, 1) := by decide +kernel
theorem d_Mo_bound_1 : decode c_Mo_bound 1 = .ok (.iconst 0, 1) := by decide +kernel
theorem d_Mo_bound_2 : decode c_Mo_bound 2 = .ok (.putfield 383, 3) := by decide +kernel
theorem d_Mo_bound_5 : decode c_Mo_bound 5 = .ok (.aload_n 0, 1) := by decide +kernel
theorem d_Mo_bound_6 : decode c_Mo_bound 6 = .ok (.iconst 0, 1) := by decide +kernel
theorem d_Mo_bound_7 : decode c_Mo_bound 7 = .ok (.putfield 386, 3) := by decide +kernel
theorem d_Mo_bound_10 : decode c_Mo_bound 10 = .ok (.aload_n 0, 1) := by decide +kernel
theorem d_Mo_bound_11 : decode c_Mo_bound 11 = .ok (.iload_n 1, 1) := by decide +kernel
theorem d_Mo_bound_12 : decode c_Mo_bound 12 = .ok (.invokevirtual 114, 3) := by decide +kernel
theorem d_Mo_bound_15 : decode c_Mo_bound 15 = .ok (.ifCond .eq 10, 3) := by decide +kernel
theorem d_Mo_bound_25 : decode c_Mo_bound 25 = .ok (.iconst (-1), 1) := by decide +kernel
theorem d_Mo_bound_26 : decode c_Mo_bound 26 = .ok (.ireturn, 1) := by decide +kernel
set_option maxRecDepth 100000 in
set_option maxHeartbeats 4000000 in
/-- bound() -/
theorem f_Mo_bound (l : Launch) (G : va_G) (k : Nat → ClassId) (h0 sz : Nat) (ma : Nat → Nat) (x : Int32) : CI l y_Mo_bound c_Mo_bound 3 .int { frames := 2, cells := 0, slots := 0, locals := 41 } [.ref h0, .int x] G k sz [(h0, .inr (8, [.int 0, .ref (ma 0), .ref (ma 1), .ref (ma 2), .int (-2), .ref (ma 3), .ref (ma 4), .ref (ma 5), .ref (ma 6), .int 0, .long 0, .int (-2), .int 0, .ref (ma 7), .ref (ma 8), .ref (ma 9), .ref (ma 10), .ref (ma 11), .int 0, .ref (ma 12), .int 0, .int 0, .int 0, .int 0, .int 0, .int 0, .int 0, .ref (ma 13), .int 0, .int 0, .int 0, .int 0, .ref (ma 14), .ref (ma 15), .int 0, .ref (ma 16), .ref (ma 17), .ref (ma 18), .ref (ma 19), .ref (ma 20), .int 0, .ref (ma 21), .ref (ma 22), .ref (ma 23), .ref (ma 24), .ref (ma 25), .ref (ma 26), .ref (ma 27), .int 0, .int 0, .int 0, .int 0, .int 0, .int 0, .int 0, .ref (ma 28), .ref (ma 29), .int 0, .int 0, .int 0, .int 0]))] (fun (r : Int32) (_ : Unit) => r = (-1)) (fun _ => []) 0 0 := by
  refine met_start (by decide) (Nat.le_of_ble_eq_true rfl) ?_
  intro p e s m below meth c C K hA hsz S ls hl
  generalize va_A [(h0, .inr (8, [.int 0, .ref (ma 0), .ref (ma 1), .ref (ma 2), .int (-2), .ref (ma 3), .ref (ma 4), .ref (ma 5), .ref (ma 6), .int 0, .long 0, .int (-2), .int 0, .ref (ma 7), .ref (ma 8), .ref (ma 9), .ref (ma 10), .ref (ma 11), .int 0, .ref (ma 12), .int 0, .int 0, .int 0, .int 0, .int 0, .int 0, .int 0, .ref (ma 13), .int 0, .int 0, .int 0, .int 0, .ref (ma 14), .ref (ma 15), .int 0, .ref (ma 16), .ref (ma 17), .ref (ma 18), .ref (ma 19), .ref (ma 20), .int 0, .ref (ma 21), .ref (ma 22), .ref (ma 23), .ref (ma 24), .ref (ma 25), .ref (ma 26), .ref (ma 27), .int 0, .int 0, .int 0, .int 0, .int 0, .int 0, .int 0, .ref (ma 28), .ref (ma 29), .int 0, .int 0, .int 0, .int 0]))] sz = A at hA S ⊢
  have hx := C.1
  have hb := C.2.1
  have hl : lv_has ls 3 [(0, .ref h0), (1, .int x)] := hl
  refine lv_aload_n hx hb d_Mo_bound_0 rfl (lv_at hl 0 rfl) ?_
  refine lv_iconst (v := 0) hx hb d_Mo_bound_1 (by decide) ?_
  refine r_put C K S 0 rfl rfl clOk_Mo 57 (by decide) wf_Mo_383 rfl (ty := .boolean) (v := .int 0) (by decide +kernel) rfl rfl (Nat.le_of_ble_eq_true rfl) (fs' := [.int 0, .ref (ma 0), .ref (ma 1), .ref (ma 2), .int (-2), .ref (ma 3), .ref (ma 4), .ref (ma 5), .ref (ma 6), .int 0, .long 0, .int (-2), .int 0, .ref (ma 7), .ref (ma 8), .ref (ma 9), .ref (ma 10), .ref (ma 11), .int 0, .ref (ma 12), .int 0, .int 0, .int 0, .int 0, .int 0, .int 0, .int 0, .ref (ma 13), .int 0, .int 0, .int 0, .int 0, .ref (ma 14), .ref (ma 15), .int 0, .ref (ma 16), .ref (ma 17), .ref (ma 18), .ref (ma 19), .ref (ma 20), .int 0, .ref (ma 21), .ref (ma 22), .ref (ma 23), .ref (ma 24), .ref (ma 25), .ref (ma 26), .ref (ma 27), .int 0, .int 0, .int 0, .int 0, .int 0, .int 0, .int 0, .ref (ma 28), .ref (ma 29), .int 0, .int 0, .int 0, .int 0]) (ws' := [(h0, .inr (8, [.int 0, .ref (ma 0), .ref (ma 1), .ref (ma 2), .int (-2), .ref (ma 3), .ref (ma 4), .ref (ma 5), .ref (ma 6), .int 0, .long 0, .int (-2), .int 0, .ref (ma 7), .ref (ma 8), .ref (ma 9), .ref (ma 10), .ref (ma 11), .int 0, .ref (ma 12), .int 0, .int 0, .int 0, .int 0, .int 0, .int 0, .int 0, .ref (ma 13), .int 0, .int 0, .int 0, .int 0, .ref (ma 14), .ref (ma 15), .int 0, .ref (ma 16), .ref (ma 17), .ref (ma 18), .ref (ma 19), .ref (ma 20), .int 0, .ref (ma 21), .ref (ma 22), .ref (ma 23), .ref (ma 24), .ref (ma 25), .ref (ma 26), .ref (ma 27), .int 0, .int 0, .int 0, .int 0, .int 0, .int 0, .int 0, .ref (ma 28), .ref (ma 29), .int 0, .int 0, .int 0, .int 0]))]) rfl rfl d_Mo_bound_2 (fun H locs S => ?_)
  refine lv_aload_n hx hb d_Mo_bound_5 rfl (lv_at hl 0 rfl) ?_
  refine lv_iconst (v := 0) hx hb d_Mo_bound_6 (by decide) ?_
  refine r_put C K S 0 rfl rfl clOk_Mo 60 (by decide) wf_Mo_386 rfl (ty := .boolean) (v := .int 0) (by decide +kernel) rfl rfl (Nat.le_of_ble_eq_true rfl) (fs' := [.int 0, .ref (ma 0), .ref (ma 1), .ref (ma 2), .int (-2), .ref (ma 3), .ref (ma 4), .ref (ma 5), .ref (ma 6), .int 0, .long 0, .int (-2), .int 0, .ref (ma 7), .ref (ma 8), .ref (ma 9), .ref (ma 10), .ref (ma 11), .int 0, .ref (ma 12), .int 0, .int 0, .int 0, .int 0, .int 0, .int 0, .int 0, .ref (ma 13), .int 0, .int 0, .int 0, .int 0, .ref (ma 14), .ref (ma 15), .int 0, .ref (ma 16), .ref (ma 17), .ref (ma 18), .ref (ma 19), .ref (ma 20), .int 0, .ref (ma 21), .ref (ma 22), .ref (ma 23), .ref (ma 24), .ref (ma 25), .ref (ma 26), .ref (ma 27), .int 0, .int 0, .int 0, .int 0, .int 0, .int 0, .int 0, .ref (ma 28), .ref (ma 29), .int 0, .int 0, .int 0, .int 0]) (ws' := [(h0, .inr (8, [.int 0, .ref (ma 0), .ref (ma 1), .ref (ma 2), .int (-2), .ref (ma 3), .ref (ma 4), .ref (ma 5), .ref (ma 6), .int 0, .long 0, .int (-2), .int 0, .ref (ma 7), .ref (ma 8), .ref (ma 9), .ref (ma 10), .ref (ma 11), .int 0, .ref (ma 12), .int 0, .int 0, .int 0, .int 0, .int 0, .int 0, .int 0, .ref (ma 13), .int 0, .int 0, .int 0, .int 0, .ref (ma 14), .ref (ma 15), .int 0, .ref (ma 16), .ref (ma 17), .ref (ma 18), .ref (ma 19), .ref (ma 20), .int 0, .ref (ma 21), .ref (ma 22), .ref (ma 23), .ref (ma 24), .ref (ma 25), .ref (ma 26), .ref (ma 27), .int 0, .int 0, .int 0, .int 0, .int 0, .int 0, .int 0, .ref (ma 28), .ref (ma 29), .int 0, .int 0, .int 0, .int 0]))]) rfl rfl d_Mo_bound_7 (fun H locs S => ?_)
  refine lv_aload_n hx hb d_Mo_bound_10 rfl (lv_at hl 0 rfl) ?_
  refine lv_iload_n hx hb d_Mo_bound_11 rfl (lv_at hl 1 rfl) ?_
  refine r_backi (wi := [(h0, .inr (8, [.int 0, .ref (ma 0), .ref (ma 1), .ref (ma 2), .int (-2), .ref (ma 3), .ref (ma 4), .ref (ma 5), .ref (ma 6), .int 0, .long 0, .int (-2), .int 0, .ref (ma 7), .ref (ma 8), .ref (ma 9), .ref (ma 10), .ref (ma 11), .int 0, .ref (ma 12), .int 0, .int 0, .int 0, .int 0, .int 0, .int 0, .int 0, .ref (ma 13), .int 0, .int 0, .int 0, .int 0, .ref (ma 14), .ref (ma 15), .int 0, .ref (ma 16), .ref (ma 17), .ref (ma 18), .ref (ma 19), .ref (ma 20), .int 0, .ref (ma 21), .ref (ma 22), .ref (ma 23), .ref (ma 24), .ref (ma 25), .ref (ma 26), .ref (ma 27), .int 0, .int 0, .int 0, .int 0, .int 0, .int 0, .int 0, .ref (ma 28), .ref (ma 29), .int 0, .int 0, .int 0, .int 0]))]) (wr := []) S hA [0] [] rfl rfl (by decide) (by decide) (va_runV (As := [.int x]) (rest := []) ⟨hx, hb, C.2.2.1, C.2.2.2.1, C.2.2.2.2.1⟩ (f_Mo_isFunction l G k h0 _ ma x) (k_virt (n := 1) C wc_Mo_isFunction rfl rfl wz_Mo wm_Mo_114 wn_Mo_isFunction ws_Mo_isFunction (by decide +kernel) ⟨(Nat.le_of_ble_eq_true rfl), (Nat.le_of_ble_eq_true rfl)⟩) (pr_nowV K S [0] (by decide) rfl 0 rfl rfl) rfl rfl hl.1 rfl (lv_room (Nat.le_of_ble_eq_true rfl)) d_Mo_bound_12 ⟨(Nat.le_of_ble_eq_true rfl), (Nat.le_of_ble_eq_true rfl)⟩) (fun r3 u1 H locs hw2 S => ?_)
  have S : Sw G A s.heap _ _ [(h0, .inr (8, [.int 0, .ref (ma 0), .ref (ma 1), .ref (ma 2), .int (-2), .ref (ma 3), .ref (ma 4), .ref (ma 5), .ref (ma 6), .int 0, .long 0, .int (-2), .int 0, .ref (ma 7), .ref (ma 8), .ref (ma 9), .ref (ma 10), .ref (ma 11), .int 0, .ref (ma 12), .int 0, .int 0, .int 0, .int 0, .int 0, .int 0, .int 0, .ref (ma 13), .int 0, .int 0, .int 0, .int 0, .ref (ma 14), .ref (ma 15), .int 0, .ref (ma 16), .ref (ma 17), .ref (ma 18), .ref (ma 19), .ref (ma 20), .int 0, .ref (ma 21), .ref (ma 22), .ref (ma 23), .ref (ma 24), .ref (ma 25), .ref (ma 26), .ref (ma 27), .int 0, .int 0, .int 0, .int 0, .int 0, .int 0, .int 0, .ref (ma 28), .ref (ma 29), .int 0, .int 0, .int 0, .int 0]))] := S
  have hw2 : r3 = 0 := hw2
  subst hw2
  refine lv_if_eq (tgt := 25) hx hb d_Mo_bound_15 (by decide) (fun _ => ?_) (fun hq => absurd (by decide) hq)
  refine lv_iconst (v := (-1)) hx hb d_Mo_bound_25 (by decide) ?_
  exact r_iret C K rfl () rfl (S.sub [] rfl rfl) d_Mo_bound_26 (Nat.le_of_ble_eq_true rfl) (Nat.le_of_ble_eq_true rfl)
theorem d_Mo_told_0 : decode c_Mo_told 0 = .ok (.aload_n 0, 1) := by decide +kernel
theorem d_Mo_told_1 : decode c_Mo_told 1 = .ok (.getfield 386, 3) := by decide +kernel
theorem d_Mo_told_4 : decode c_Mo_told 4 = .ok (.ifCond .eq 12, 3) := by decide +kernel
theorem d_Mo_told_16 : decode c_Mo_told 16 = .ok (.bipush (-2), 2) := by decide +kernel
theorem d_Mo_told_18 : decode c_Mo_told 18 = .ok (.goto 18, 3) := by decide +kernel
theorem d_Mo_told_36 : decode c_Mo_told 36 = .ok (.ireturn, 1) := by decide +kernel
set_option maxRecDepth 100000 in
set_option maxHeartbeats 4000000 in
/-- told() -/
theorem f_Mo_told (l : Launch) (G : va_G) (k : Nat → ClassId) (h0 sz : Nat) (ma : Nat → Nat) (x : Int32) : CI l y_Mo_told c_Mo_told 2 .int { frames := 1, cells := 0, slots := 0, locals := 20 } [.ref h0, .int x] G k sz [(h0, .inr (8, [.int 0, .ref (ma 0), .ref (ma 1), .ref (ma 2), .int (-2), .ref (ma 3), .ref (ma 4), .ref (ma 5), .ref (ma 6), .int 0, .long 0, .int (-2), .int 0, .ref (ma 7), .ref (ma 8), .ref (ma 9), .ref (ma 10), .ref (ma 11), .int 0, .ref (ma 12), .int 0, .int 0, .int 0, .int 0, .int 0, .int 0, .int 0, .ref (ma 13), .int 0, .int 0, .int 0, .int 0, .ref (ma 14), .ref (ma 15), .int 0, .ref (ma 16), .ref (ma 17), .ref (ma 18), .ref (ma 19), .ref (ma 20), .int 0, .ref (ma 21), .ref (ma 22), .ref (ma 23), .ref (ma 24), .ref (ma 25), .ref (ma 26), .ref (ma 27), .int 0, .int 0, .int 0, .int 0, .int 0, .int 0, .int 0, .ref (ma 28), .ref (ma 29), .int 0, .int 0, .int 0, .int 0]))] (fun (r : Int32) (_ : Unit) => r = (-2)) (fun _ => []) 0 0 := by
  refine met_start (by decide) (Nat.le_of_ble_eq_true rfl) ?_
  intro p e s m below meth c C K hA hsz S ls hl
  generalize va_A [(h0, .inr (8, [.int 0, .ref (ma 0), .ref (ma 1), .ref (ma 2), .int (-2), .ref (ma 3), .ref (ma 4), .ref (ma 5), .ref (ma 6), .int 0, .long 0, .int (-2), .int 0, .ref (ma 7), .ref (ma 8), .ref (ma 9), .ref (ma 10), .ref (ma 11), .int 0, .ref (ma 12), .int 0, .int 0, .int 0, .int 0, .int 0, .int 0, .int 0, .ref (ma 13), .int 0, .int 0, .int 0, .int 0, .ref (ma 14), .ref (ma 15), .int 0, .ref (ma 16), .ref (ma 17), .ref (ma 18), .ref (ma 19), .ref (ma 20), .int 0, .ref (ma 21), .ref (ma 22), .ref (ma 23), .ref (ma 24), .ref (ma 25), .ref (ma 26), .ref (ma 27), .int 0, .int 0, .int 0, .int 0, .int 0, .int 0, .int 0, .ref (ma 28), .ref (ma 29), .int 0, .int 0, .int 0, .int 0]))] sz = A at hA S ⊢
  have hx := C.1
  have hb := C.2.1
  have hl : lv_has ls 2 [(0, .ref h0), (1, .int x)] := hl
  refine lv_aload_n hx hb d_Mo_told_0 rfl (lv_at hl 0 rfl) ?_
  refine r_get C K S 0 rfl rfl clOk_Mo 60 (by decide) wf_Mo_386 (v := .int 0) rfl d_Mo_told_1 ?_
  refine lv_if_eq (tgt := 16) hx hb d_Mo_told_4 (by decide) (fun _ => ?_) (fun hq => absurd (by decide) hq)
  refine lv_bipush (v := (-2)) hx hb d_Mo_told_16 (by decide) ?_
  refine lv_goto (tgt := 36) hx hb d_Mo_told_18 (by decide) ?_
  exact r_iret C K rfl () rfl (S.sub [] rfl rfl) d_Mo_told_36 (Nat.le_of_ble_eq_true rfl) (Nat.le_of_ble_eq_true rfl)
theorem d_Mo_scaled_0 : decode c_Mo_scaled 0 = .ok (.aload_n 0, 1) := by decide +kernel
theorem d_Mo_scaled_1 : decode c_Mo_scaled 1 = .ok (.getfield 383, 3) := by decide +kernel
theorem d_Mo_scaled_4 : decode c_Mo_scaled 4 = .ok (.ifCond .eq 21, 3) := by decide +kernel
theorem d_Mo_scaled_25 : decode c_Mo_scaled 25 = .ok (.ldc2_w 407, 3) := by decide +kernel
theorem d_Mo_scaled_28 : decode c_Mo_scaled 28 = .ok (.lreturn, 1) := by decide +kernel
set_option maxRecDepth 100000 in
set_option maxHeartbeats 4000000 in
/-- scaled() -/
theorem f_Mo_scaled (l : Launch) (G : va_G) (k : Nat → ClassId) (h0 sz : Nat) (ma : Nat → Nat) (x y : Int32) : CL l y_Mo_scaled c_Mo_scaled 6 { frames := 1, cells := 0, slots := 0, locals := 20 } [.ref h0, .int x, .int y] G k sz [(h0, .inr (8, [.int 0, .ref (ma 0), .ref (ma 1), .ref (ma 2), .int (-2), .ref (ma 3), .ref (ma 4), .ref (ma 5), .ref (ma 6), .int 0, .long 0, .int (-2), .int 0, .ref (ma 7), .ref (ma 8), .ref (ma 9), .ref (ma 10), .ref (ma 11), .int 0, .ref (ma 12), .int 0, .int 0, .int 0, .int 0, .int 0, .int 0, .int 0, .ref (ma 13), .int 0, .int 0, .int 0, .int 0, .ref (ma 14), .ref (ma 15), .int 0, .ref (ma 16), .ref (ma 17), .ref (ma 18), .ref (ma 19), .ref (ma 20), .int 0, .ref (ma 21), .ref (ma 22), .ref (ma 23), .ref (ma 24), .ref (ma 25), .ref (ma 26), .ref (ma 27), .int 0, .int 0, .int 0, .int 0, .int 0, .int 0, .int 0, .ref (ma 28), .ref (ma 29), .int 0, .int 0, .int 0, .int 0]))] (fun (r : Int64) (_ : Unit) => r = (-2)) (fun _ => []) 0 0 := by
  refine met_start (by decide) (Nat.le_of_ble_eq_true rfl) ?_
  intro p e s m below meth c C K hA hsz S ls hl
  generalize va_A [(h0, .inr (8, [.int 0, .ref (ma 0), .ref (ma 1), .ref (ma 2), .int (-2), .ref (ma 3), .ref (ma 4), .ref (ma 5), .ref (ma 6), .int 0, .long 0, .int (-2), .int 0, .ref (ma 7), .ref (ma 8), .ref (ma 9), .ref (ma 10), .ref (ma 11), .int 0, .ref (ma 12), .int 0, .int 0, .int 0, .int 0, .int 0, .int 0, .int 0, .ref (ma 13), .int 0, .int 0, .int 0, .int 0, .ref (ma 14), .ref (ma 15), .int 0, .ref (ma 16), .ref (ma 17), .ref (ma 18), .ref (ma 19), .ref (ma 20), .int 0, .ref (ma 21), .ref (ma 22), .ref (ma 23), .ref (ma 24), .ref (ma 25), .ref (ma 26), .ref (ma 27), .int 0, .int 0, .int 0, .int 0, .int 0, .int 0, .int 0, .ref (ma 28), .ref (ma 29), .int 0, .int 0, .int 0, .int 0]))] sz = A at hA S ⊢
  have hx := C.1
  have hb := C.2.1
  have hl : lv_has ls 6 [(0, .ref h0), (1, .int x), (2, .int y)] := hl
  refine lv_aload_n hx hb d_Mo_scaled_0 rfl (lv_at hl 0 rfl) ?_
  refine r_get C K S 0 rfl rfl clOk_Mo 57 (by decide) wf_Mo_383 (v := .int 0) rfl d_Mo_scaled_1 ?_
  refine lv_if_eq (tgt := 25) hx hb d_Mo_scaled_4 (by decide) (fun _ => ?_) (fun hq => absurd (by decide) hq)
  refine lv_ldc2 (v := (-2)) hx hb C.2.2.2.1 (C.2.2.2.2.1 _ wk_Mo_407) d_Mo_scaled_25 ?_
  exact r_lret C K () rfl (S.sub [] rfl rfl) d_Mo_scaled_28 (Nat.le_of_ble_eq_true rfl) (Nat.le_of_ble_eq_true rfl)
theorem d_Mo_covers_0 : decode c_Mo_covers 0 = .ok (.aload_n 0, 1) := by decide +kernel
theorem d_Mo_covers_1 : decode c_Mo_covers 1 = .ok (.getfield 383, 3) := by decide +kernel
theorem d_Mo_covers_4 : decode c_Mo_covers 4 = .ok (.ifCond .ne 6, 3) := by decide +kernel
theorem d_Mo_covers_7 : decode c_Mo_covers 7 = .ok (.bipush (-2), 2) := by decide +kernel
theorem d_Mo_covers_9 : decode c_Mo_covers 9 = .ok (.ireturn, 1) := by decide +kernel
set_option maxRecDepth 100000 in
set_option maxHeartbeats 4000000 in
/-- covers() -/
theorem f_Mo_covers (l : Launch) (G : va_G) (k : Nat → ClassId) (h0 sz : Nat) (ma : Nat → Nat) (x y z : Int32) (n : Int64) : CI l y_Mo_covers c_Mo_covers 8 .int { frames := 1, cells := 0, slots := 0, locals := 20 } [.ref h0, .int x, .int y, .int z, .long n] G k sz [(h0, .inr (8, [.int 0, .ref (ma 0), .ref (ma 1), .ref (ma 2), .int (-2), .ref (ma 3), .ref (ma 4), .ref (ma 5), .ref (ma 6), .int 0, .long 0, .int (-2), .int 0, .ref (ma 7), .ref (ma 8), .ref (ma 9), .ref (ma 10), .ref (ma 11), .int 0, .ref (ma 12), .int 0, .int 0, .int 0, .int 0, .int 0, .int 0, .int 0, .ref (ma 13), .int 0, .int 0, .int 0, .int 0, .ref (ma 14), .ref (ma 15), .int 0, .ref (ma 16), .ref (ma 17), .ref (ma 18), .ref (ma 19), .ref (ma 20), .int 0, .ref (ma 21), .ref (ma 22), .ref (ma 23), .ref (ma 24), .ref (ma 25), .ref (ma 26), .ref (ma 27), .int 0, .int 0, .int 0, .int 0, .int 0, .int 0, .int 0, .ref (ma 28), .ref (ma 29), .int 0, .int 0, .int 0, .int 0]))] (fun (r : Int32) (_ : Unit) => r = (-2)) (fun _ => []) 0 0 := by
  refine met_start (by decide) (Nat.le_of_ble_eq_true rfl) ?_
  intro p e s m below meth c C K hA hsz S ls hl
  generalize va_A [(h0, .inr (8, [.int 0, .ref (ma 0), .ref (ma 1), .ref (ma 2), .int (-2), .ref (ma 3), .ref (ma 4), .ref (ma 5), .ref (ma 6), .int 0, .long 0, .int (-2), .int 0, .ref (ma 7), .ref (ma 8), .ref (ma 9), .ref (ma 10), .ref (ma 11), .int 0, .ref (ma 12), .int 0, .int 0, .int 0, .int 0, .int 0, .int 0, .int 0, .ref (ma 13), .int 0, .int 0, .int 0, .int 0, .ref (ma 14), .ref (ma 15), .int 0, .ref (ma 16), .ref (ma 17), .ref (ma 18), .ref (ma 19), .ref (ma 20), .int 0, .ref (ma 21), .ref (ma 22), .ref (ma 23), .ref (ma 24), .ref (ma 25), .ref (ma 26), .ref (ma 27), .int 0, .int 0, .int 0, .int 0, .int 0, .int 0, .int 0, .ref (ma 28), .ref (ma 29), .int 0, .int 0, .int 0, .int 0]))] sz = A at hA S ⊢
  have hx := C.1
  have hb := C.2.1
  have hl : lv_has ls 8 [(0, .ref h0), (1, .int x), (2, .int y), (3, .int z), (4, .long n)] := hl
  refine lv_aload_n hx hb d_Mo_covers_0 rfl (lv_at hl 0 rfl) ?_
  refine r_get C K S 0 rfl rfl clOk_Mo 57 (by decide) wf_Mo_383 (v := .int 0) rfl d_Mo_covers_1 ?_
  refine lv_if_ne (tgt := 10) hx hb d_Mo_covers_4 (by decide) (fun hq => absurd (by decide) hq) (fun _ => ?_)
  refine lv_bipush (v := (-2)) hx hb d_Mo_covers_7 (by decide) ?_
  exact r_iret C K rfl () rfl (S.sub [] rfl rfl) d_Mo_covers_9 (Nat.le_of_ble_eq_true rfl) (Nat.le_of_ble_eq_true rfl)
theorem d_Mo_function_0 : decode c_Mo_function 0 = .ok (.iload_n 1, 1) := by decide +kernel
theorem d_Mo_function_1 : decode c_Mo_function 1 = .ok (.ifCond .lt 8, 3) := by decide +kernel
theorem d_Mo_function_4 : decode c_Mo_function 4 = .ok (.iload_n 1, 1) := by decide +kernel
theorem d_Mo_function_5 : decode c_Mo_function 5 = .ok (.iconst 3, 1) := by decide +kernel
theorem d_Mo_function_6 : decode c_Mo_function 6 = .ok (.if_icmp .le 5, 3) := by decide +kernel
theorem d_Mo_function_9 : decode c_Mo_function 9 = .ok (.iconst (-1), 1) := by decide +kernel
theorem d_Mo_function_10 : decode c_Mo_function 10 = .ok (.ireturn, 1) := by decide +kernel
theorem d_Mo_function_11 : decode c_Mo_function 11 = .ok (.aload_n 0, 1) := by decide +kernel
theorem d_Mo_function_12 : decode c_Mo_function 12 = .ok (.getfield 111, 3) := by decide +kernel
theorem d_Mo_function_15 : decode c_Mo_function 15 = .ok (.iconst 4, 1) := by decide +kernel
theorem d_Mo_function_16 : decode c_Mo_function 16 = .ok (.if_icmp .ne 6, 3) := by decide +kernel
theorem d_Mo_function_22 : decode c_Mo_function 22 = .ok (.aload_n 0, 1) := by decide +kernel
theorem d_Mo_function_23 : decode c_Mo_function 23 = .ok (.getfield 9, 3) := by decide +kernel
theorem d_Mo_function_26 : decode c_Mo_function 26 = .ok (.aload_n 0, 1) := by decide +kernel
theorem d_Mo_function_27 : decode c_Mo_function 27 = .ok (.getfield 111, 3) := by decide +kernel
theorem d_Mo_function_30 : decode c_Mo_function 30 = .ok (.iload_n 1, 1) := by decide +kernel
theorem d_Mo_function_31 : decode c_Mo_function 31 = .ok (.iastore, 1) := by decide +kernel
theorem d_Mo_function_32 : decode c_Mo_function 32 = .ok (.aload_n 0, 1) := by decide +kernel
theorem d_Mo_function_33 : decode c_Mo_function 33 = .ok (.getfield 16, 3) := by decide +kernel
theorem d_Mo_function_36 : decode c_Mo_function 36 = .ok (.aload_n 0, 1) := by decide +kernel
theorem d_Mo_function_37 : decode c_Mo_function 37 = .ok (.getfield 111, 3) := by decide +kernel
theorem d_Mo_function_40 : decode c_Mo_function 40 = .ok (.iconst 0, 1) := by decide +kernel
theorem d_Mo_function_41 : decode c_Mo_function 41 = .ok (.iastore, 1) := by decide +kernel
theorem d_Mo_function_42 : decode c_Mo_function 42 = .ok (.aload_n 0, 1) := by decide +kernel
theorem d_Mo_function_43 : decode c_Mo_function 43 = .ok (.dup, 1) := by decide +kernel
theorem d_Mo_function_44 : decode c_Mo_function 44 = .ok (.getfield 111, 3) := by decide +kernel
theorem d_Mo_function_47 : decode c_Mo_function 47 = .ok (.iconst 1, 1) := by decide +kernel
theorem d_Mo_function_48 : decode c_Mo_function 48 = .ok (.iadd, 1) := by decide +kernel
theorem d_Mo_function_49 : decode c_Mo_function 49 = .ok (.putfield 111, 3) := by decide +kernel
theorem d_Mo_function_52 : decode c_Mo_function 52 = .ok (.aload_n 0, 1) := by decide +kernel
theorem d_Mo_function_53 : decode c_Mo_function 53 = .ok (.getfield 111, 3) := by decide +kernel
theorem d_Mo_function_56 : decode c_Mo_function 56 = .ok (.iconst 1, 1) := by decide +kernel
theorem d_Mo_function_57 : decode c_Mo_function 57 = .ok (.isub, 1) := by decide +kernel
theorem d_Mo_function_58 : decode c_Mo_function 58 = .ok (.ireturn, 1) := by decide +kernel
set_option maxRecDepth 100000 in
set_option maxHeartbeats 4000000 in
/-- function() -/
theorem f_Mo_function (l : Launch) (G : va_G) (k : Nat → ClassId) (h0 sz : Nat) (ma : Nat → Nat) (x : Int32) : CI l y_Mo_function c_Mo_function 2 .int { frames := 1, cells := 0, slots := 0, locals := 20 } [.ref h0, .int x] G k sz [(h0, .inr (8, [.int 0, .ref (ma 0), .ref (ma 1), .ref (ma 2), .int (-2), .ref (ma 3), .ref (ma 4), .ref (ma 5), .ref (ma 6), .int 0, .long 0, .int (-2), .int 0, .ref (ma 7), .ref (ma 8), .ref (ma 9), .ref (ma 10), .ref (ma 11), .int 0, .ref (ma 12), .int 0, .int 0, .int 0, .int 0, .int 0, .int 0, .int 0, .ref (ma 13), .int 0, .int 0, .int 0, .int 0, .ref (ma 14), .ref (ma 15), .int 0, .ref (ma 16), .ref (ma 17), .ref (ma 18), .ref (ma 19), .ref (ma 20), .int 0, .ref (ma 21), .ref (ma 22), .ref (ma 23), .ref (ma 24), .ref (ma 25), .ref (ma 26), .ref (ma 27), .int 0, .int 0, .int 0, .int 0, .int 0, .int 0, .int 0, .ref (ma 28), .ref (ma 29), .int 0, .int 0, .int 0, .int 0])), ((ma 0), .inl (k 0, 4, .inl (fun _ => 0))), ((ma 2), .inl (k 0, 4, .inl (fun _ => 0)))] (fun (r : Int32) (_ : Unit) => r = fnr x) (fun _ => []) 0 0 := by
  refine met_start (by decide) (Nat.le_of_ble_eq_true rfl) ?_
  intro p e s m below meth c C K hA hsz S ls hl
  generalize va_A [(h0, .inr (8, [.int 0, .ref (ma 0), .ref (ma 1), .ref (ma 2), .int (-2), .ref (ma 3), .ref (ma 4), .ref (ma 5), .ref (ma 6), .int 0, .long 0, .int (-2), .int 0, .ref (ma 7), .ref (ma 8), .ref (ma 9), .ref (ma 10), .ref (ma 11), .int 0, .ref (ma 12), .int 0, .int 0, .int 0, .int 0, .int 0, .int 0, .int 0, .ref (ma 13), .int 0, .int 0, .int 0, .int 0, .ref (ma 14), .ref (ma 15), .int 0, .ref (ma 16), .ref (ma 17), .ref (ma 18), .ref (ma 19), .ref (ma 20), .int 0, .ref (ma 21), .ref (ma 22), .ref (ma 23), .ref (ma 24), .ref (ma 25), .ref (ma 26), .ref (ma 27), .int 0, .int 0, .int 0, .int 0, .int 0, .int 0, .int 0, .ref (ma 28), .ref (ma 29), .int 0, .int 0, .int 0, .int 0])), ((ma 0), .inl (k 0, 4, .inl (fun _ => 0))), ((ma 2), .inl (k 0, 4, .inl (fun _ => 0)))] sz = A at hA S ⊢
  have hx := C.1
  have hb := C.2.1
  have hl : lv_has ls 2 [(0, .ref h0), (1, .int x)] := hl
  refine lv_iload_n hx hb d_Mo_function_0 rfl (lv_at hl 1 rfl) ?_
  refine lv_if_lt (tgt := 9) hx hb d_Mo_function_1 (by decide) (fun hc1 => ?_) (fun hc1 => ?_)
  · refine lv_iconst (v := (-1)) hx hb d_Mo_function_9 (by decide) ?_
    exact r_iret C K rfl () (by simp [fnr, hc1]) (S.sub [] rfl rfl) d_Mo_function_10 (Nat.le_of_ble_eq_true rfl) (Nat.le_of_ble_eq_true rfl)
  · refine lv_iload_n hx hb d_Mo_function_4 rfl (lv_at hl 1 rfl) ?_
    refine lv_iconst (v := 3) hx hb d_Mo_function_5 (by decide) ?_
    refine lv_icmp_le (tgt := 11) hx hb d_Mo_function_6 (by decide) (fun hc2 => ?_) (fun hc2 => ?_)
    · refine lv_aload_n hx hb d_Mo_function_11 rfl (lv_at hl 0 rfl) ?_
      refine r_get C K S 0 rfl rfl clOk_Mo 0 (by decide) wf_Mo_111 (v := .int 0) rfl d_Mo_function_12 ?_
      refine lv_iconst (v := 4) hx hb d_Mo_function_15 (by decide) ?_
      refine lv_icmp_ne (tgt := 22) hx hb d_Mo_function_16 (by decide) (fun _ => ?_) (fun hq => absurd hq (by decide))
      refine lv_aload_n hx hb d_Mo_function_22 rfl (lv_at hl 0 rfl) ?_
      refine r_get C K S 0 rfl rfl clOk_Mo 1 (by decide) wf_Mo_9 (v := .ref (ma 0)) rfl d_Mo_function_23 ?_
      refine lv_aload_n hx hb d_Mo_function_26 rfl (lv_at hl 0 rfl) ?_
      refine r_get C K S 0 rfl rfl clOk_Mo 0 (by decide) wf_Mo_111 (v := .int 0) rfl d_Mo_function_27 ?_
      refine lv_iload_n hx hb d_Mo_function_30 rfl (lv_at hl 1 rfl) ?_
      refine r_iast C K S 1 rfl (i := 0) (x := x) (by unfold vp_in; decide) (f' := upd (fun _ => 0) 0 x) (ws' := [(h0, .inr (8, [.int 0, .ref (ma 0), .ref (ma 1), .ref (ma 2), .int (-2), .ref (ma 3), .ref (ma 4), .ref (ma 5), .ref (ma 6), .int 0, .long 0, .int (-2), .int 0, .ref (ma 7), .ref (ma 8), .ref (ma 9), .ref (ma 10), .ref (ma 11), .int 0, .ref (ma 12), .int 0, .int 0, .int 0, .int 0, .int 0, .int 0, .int 0, .ref (ma 13), .int 0, .int 0, .int 0, .int 0, .ref (ma 14), .ref (ma 15), .int 0, .ref (ma 16), .ref (ma 17), .ref (ma 18), .ref (ma 19), .ref (ma 20), .int 0, .ref (ma 21), .ref (ma 22), .ref (ma 23), .ref (ma 24), .ref (ma 25), .ref (ma 26), .ref (ma 27), .int 0, .int 0, .int 0, .int 0, .int 0, .int 0, .int 0, .ref (ma 28), .ref (ma 29), .int 0, .int 0, .int 0, .int 0])), ((ma 0), .inl (k 0, 4, .inl (upd (fun _ => 0) 0 x))), ((ma 2), .inl (k 0, 4, .inl (fun _ => 0)))]) rfl rfl d_Mo_function_31 (fun H locs S => ?_)
      refine lv_aload_n hx hb d_Mo_function_32 rfl (lv_at hl 0 rfl) ?_
      refine r_get C K S 0 rfl rfl clOk_Mo 3 (by decide) wf_Mo_16 (v := .ref (ma 2)) rfl d_Mo_function_33 ?_
      refine lv_aload_n hx hb d_Mo_function_36 rfl (lv_at hl 0 rfl) ?_
      refine r_get C K S 0 rfl rfl clOk_Mo 0 (by decide) wf_Mo_111 (v := .int 0) rfl d_Mo_function_37 ?_
      refine lv_iconst (v := 0) hx hb d_Mo_function_40 (by decide) ?_
      refine r_iast C K S 2 rfl (i := 0) (x := 0) (by unfold vp_in; decide) (f' := upd (fun _ => 0) 0 0) (ws' := [(h0, .inr (8, [.int 0, .ref (ma 0), .ref (ma 1), .ref (ma 2), .int (-2), .ref (ma 3), .ref (ma 4), .ref (ma 5), .ref (ma 6), .int 0, .long 0, .int (-2), .int 0, .ref (ma 7), .ref (ma 8), .ref (ma 9), .ref (ma 10), .ref (ma 11), .int 0, .ref (ma 12), .int 0, .int 0, .int 0, .int 0, .int 0, .int 0, .int 0, .ref (ma 13), .int 0, .int 0, .int 0, .int 0, .ref (ma 14), .ref (ma 15), .int 0, .ref (ma 16), .ref (ma 17), .ref (ma 18), .ref (ma 19), .ref (ma 20), .int 0, .ref (ma 21), .ref (ma 22), .ref (ma 23), .ref (ma 24), .ref (ma 25), .ref (ma 26), .ref (ma 27), .int 0, .int 0, .int 0, .int 0, .int 0, .int 0, .int 0, .ref (ma 28), .ref (ma 29), .int 0, .int 0, .int 0, .int 0])), ((ma 0), .inl (k 0, 4, .inl (upd (fun _ => 0) 0 x))), ((ma 2), .inl (k 0, 4, .inl (upd (fun _ => 0) 0 0)))]) rfl rfl d_Mo_function_41 (fun H locs S => ?_)
      refine lv_aload_n hx hb d_Mo_function_42 rfl (lv_at hl 0 rfl) ?_
      refine lv_dup hx hb d_Mo_function_43 rfl ?_
      refine r_get C K S 0 rfl rfl clOk_Mo 0 (by decide) wf_Mo_111 (v := .int 0) rfl d_Mo_function_44 ?_
      refine lv_iconst (v := 1) hx hb d_Mo_function_47 (by decide) ?_
      refine lv_iadd hx hb d_Mo_function_48 ?_
      rw [show (0 : Int32) + 1 = 1 from by decide]
      refine r_put C K S 0 rfl rfl clOk_Mo 0 (by decide) wf_Mo_111 rfl (ty := .int) (v := .int 1) (by decide +kernel) rfl rfl (Nat.le_of_ble_eq_true rfl) (fs' := [.int 1, .ref (ma 0), .ref (ma 1), .ref (ma 2), .int (-2), .ref (ma 3), .ref (ma 4), .ref (ma 5), .ref (ma 6), .int 0, .long 0, .int (-2), .int 0, .ref (ma 7), .ref (ma 8), .ref (ma 9), .ref (ma 10), .ref (ma 11), .int 0, .ref (ma 12), .int 0, .int 0, .int 0, .int 0, .int 0, .int 0, .int 0, .ref (ma 13), .int 0, .int 0, .int 0, .int 0, .ref (ma 14), .ref (ma 15), .int 0, .ref (ma 16), .ref (ma 17), .ref (ma 18), .ref (ma 19), .ref (ma 20), .int 0, .ref (ma 21), .ref (ma 22), .ref (ma 23), .ref (ma 24), .ref (ma 25), .ref (ma 26), .ref (ma 27), .int 0, .int 0, .int 0, .int 0, .int 0, .int 0, .int 0, .ref (ma 28), .ref (ma 29), .int 0, .int 0, .int 0, .int 0]) (ws' := [(h0, .inr (8, [.int 1, .ref (ma 0), .ref (ma 1), .ref (ma 2), .int (-2), .ref (ma 3), .ref (ma 4), .ref (ma 5), .ref (ma 6), .int 0, .long 0, .int (-2), .int 0, .ref (ma 7), .ref (ma 8), .ref (ma 9), .ref (ma 10), .ref (ma 11), .int 0, .ref (ma 12), .int 0, .int 0, .int 0, .int 0, .int 0, .int 0, .int 0, .ref (ma 13), .int 0, .int 0, .int 0, .int 0, .ref (ma 14), .ref (ma 15), .int 0, .ref (ma 16), .ref (ma 17), .ref (ma 18), .ref (ma 19), .ref (ma 20), .int 0, .ref (ma 21), .ref (ma 22), .ref (ma 23), .ref (ma 24), .ref (ma 25), .ref (ma 26), .ref (ma 27), .int 0, .int 0, .int 0, .int 0, .int 0, .int 0, .int 0, .ref (ma 28), .ref (ma 29), .int 0, .int 0, .int 0, .int 0])), ((ma 0), .inl (k 0, 4, .inl (upd (fun _ => 0) 0 x))), ((ma 2), .inl (k 0, 4, .inl (upd (fun _ => 0) 0 0)))]) rfl rfl d_Mo_function_49 (fun H locs S => ?_)
      refine lv_aload_n hx hb d_Mo_function_52 rfl (lv_at hl 0 rfl) ?_
      refine r_get C K S 0 rfl rfl clOk_Mo 0 (by decide) wf_Mo_111 (v := .int 1) rfl d_Mo_function_53 ?_
      refine lv_iconst (v := 1) hx hb d_Mo_function_56 (by decide) ?_
      refine lv_isub hx hb d_Mo_function_57 ?_
      rw [show (1 : Int32) - 1 = 0 from by decide]
      exact r_iret C K rfl () (by simp [fnr, hc1, hc2]) (S.sub [] rfl rfl) d_Mo_function_58 (Nat.le_of_ble_eq_true rfl) (Nat.le_of_ble_eq_true rfl)
    · refine lv_iconst (v := (-1)) hx hb d_Mo_function_9 (by decide) ?_
      exact r_iret C K rfl () (by simp [fnr, hc1, hc2]) (S.sub [] rfl rfl) d_Mo_function_10 (Nat.le_of_ble_eq_true rfl) (Nat.le_of_ble_eq_true rfl)
end
section
/-! THE CLAIM OUT OF ONE WALK OF THE LAW'S BODY. Your part is whole_start (and what it stands on); all else here is the same for every law, but numbers. -/
def R_law : String := "PotentialBenchLaw"
def lw_P (b : Addr) (xs : List Int32) (args : Array Value) (s : State) : Prop := args = #[.ref b] ∧ s.IntsAt b xs ∧ xs.length ≤ 6 ∧ (Jvm.Cond.and given_1 narrow_1).before args s = true
def lw_Q (_ : Array Value) (s : State) (o : Outcome) (t : State) : Prop := o = .returned (some (.int 1)) ∧ Framed s o t [] 600000 7302250
def lw_Z (below : List Frame) (a : Array Value) (s : State) : State → Prop := fun t => ∃ o, t.status = .running ∧ Ended t below o ∧ lw_Q a s o t
/-- the law's own end, with 1 on the stack, nothing written that was there before, its room as the claim has it -/
theorem lw_ret {p : Program} {l : Launch} {e : Env} {s : State} {m : MethodId} {below : List Frame} {meth : Method} {c : Code} {b : Nat} (hx : p.tables.exec = Jvm.exec) (hb : c.code = code) (hr : meth.sig.returnType = ret) (hlocks : meth.locks = false) {pc : Nat} {H : Heap} {ls : Array Slot} (hdg : decode code pc = .ok (.ireturn, 1)) : W p l e room_1 s m #[Value.ref b] below meth c H [] 600000 7302250 (lw_Z below #[Value.ref b] s) (F0 m pc ls [.int 1]) := by
  intro T hT X
  obtain ⟨fs, hret, hrun, hended, hW, hframe⟩ := X.leave (v := some (.int 1)) (hlocks := hlocks) (fun h => by rw [hr] at h; cases h)
  have hmeth' : T.vm.method? m = some meth := X.method'
  refine ⟨T.setFrames fs, ?_, .returned (some (.int 1)), hrun, hended, rfl, ⟨_, rfl⟩, hW, hframe⟩
  jvm_step X.here [X.here.top, hx, hb, hdg, hmeth', hr, ret, narrow_b1]
  (try refine ⟨rfl, ?_⟩); (try refine ⟨rfl, ?_⟩)
  first | (intro acts; rw [hret _ acts rfl rfl rfl]) | rw [hret _ _ rfl rfl rfl]
  exact Steps.refl _
/-- what holds at the law's entry: the machine, the code, the tables' words (any of lw_tbl by 'hts w (by decide +kernel)'), the script of L ints xs at the cell b, what the Statement gives of the start (any of its parts by flat_of_before) -/
def lw_At (p : Program) (s : State) (m : MethodId) (meth : Method) (c : Code) (b L : Nat) (xs : Nat → Int32) : Prop :=
  p.tables.exec = Jvm.exec ∧ c.code = code ∧ meth.sig.returnType = ret ∧ c.maxLocals = 4 ∧ s.vm.findClass R_law = some m.cls ∧ (∀ w ∈ lw_tbl, w.before #[Value.ref b] s = true) ∧ va_X b L xs s s.heap ∧ b < s.heap.size ∧ meth.locks = false ∧ (Jvm.Cond.and given_1 narrow_1).before #[Value.ref b] s = true
end
section
theorem d_La_law_0 : decode code 0 = .ok (.new 7, 3) := by decide +kernel
theorem d_La_law_3 : decode code 3 = .ok (.dup, 1) := by decide +kernel
theorem d_La_law_4 : decode code 4 = .ok (.invokespecial 9, 3) := by decide +kernel
theorem d_La_law_7 : decode code 7 = .ok (.astore_n 1, 1) := by decide +kernel
theorem d_La_law_8 : decode code 8 = .ok (.new 10, 3) := by decide +kernel
theorem d_La_law_11 : decode code 11 = .ok (.dup, 1) := by decide +kernel
theorem d_La_law_12 : decode code 12 = .ok (.invokespecial 12, 3) := by decide +kernel
theorem d_La_law_15 : decode code 15 = .ok (.astore_n 2, 1) := by decide +kernel
theorem d_La_law_16 : decode code 16 = .ok (.iconst 0, 1) := by decide +kernel
theorem d_La_law_17 : decode code 17 = .ok (.istore_n 3, 1) := by decide +kernel
theorem d_La_law_18 : decode code 18 = .ok (.iload_n 3, 1) := by decide +kernel
theorem d_La_law_19 : decode code 19 = .ok (.aload_n 0, 1) := by decide +kernel
theorem d_La_law_20 : decode code 20 = .ok (.arraylength, 1) := by decide +kernel
theorem d_La_law_21 : decode code 21 = .ok (.bipush 6, 2) := by decide +kernel
theorem d_La_law_23 : decode code 23 = .ok (.isub, 1) := by decide +kernel
theorem d_La_law_24 : decode code 24 = .ok (.if_icmp .gt 453, 3) := by decide +kernel
theorem d_La_law_27 : decode code 27 = .ok (.aload_n 0, 1) := by decide +kernel
theorem d_La_law_28 : decode code 28 = .ok (.iload_n 3, 1) := by decide +kernel
theorem d_La_law_29 : decode code 29 = .ok (.iaload, 1) := by decide +kernel
theorem d_La_law_30 : decode code 30 = .ok (.bipush 15, 2) := by decide +kernel
theorem d_La_law_32 : decode code 32 = .ok (.iand, 1) := by decide +kernel
theorem d_La_law_33 : decode code 33 = .ok (.tableswitch 438 0 12 #[67, 90, 123, 156, 169, 182, 235, 249, 262, 275, 298, 321, 355], 67) := by decide +kernel
theorem d_La_law_100 : decode code 100 = .ok (.aload_n 1, 1) := by decide +kernel
theorem d_La_law_101 : decode code 101 = .ok (.aload_n 0, 1) := by decide +kernel
theorem d_La_law_102 : decode code 102 = .ok (.iload_n 3, 1) := by decide +kernel
theorem d_La_law_103 : decode code 103 = .ok (.iconst 1, 1) := by decide +kernel
theorem d_La_law_104 : decode code 104 = .ok (.iadd, 1) := by decide +kernel
theorem d_La_law_105 : decode code 105 = .ok (.iaload, 1) := by decide +kernel
theorem d_La_law_106 : decode code 106 = .ok (.invokevirtual 13, 3) := by decide +kernel
theorem d_La_law_109 : decode code 109 = .ok (.aload_n 2, 1) := by decide +kernel
theorem d_La_law_110 : decode code 110 = .ok (.aload_n 0, 1) := by decide +kernel
theorem d_La_law_111 : decode code 111 = .ok (.iload_n 3, 1) := by decide +kernel
theorem d_La_law_112 : decode code 112 = .ok (.iconst 1, 1) := by decide +kernel
theorem d_La_law_113 : decode code 113 = .ok (.iadd, 1) := by decide +kernel
theorem d_La_law_114 : decode code 114 = .ok (.iaload, 1) := by decide +kernel
theorem d_La_law_115 : decode code 115 = .ok (.invokevirtual 17, 3) := by decide +kernel
theorem d_La_law_118 : decode code 118 = .ok (.if_icmp .eq 353, 3) := by decide +kernel
theorem d_La_law_121 : decode code 121 = .ok (.iconst 0, 1) := by decide +kernel
theorem d_La_law_122 : decode code 122 = .ok (.ireturn, 1) := by decide +kernel
theorem d_La_law_123 : decode code 123 = .ok (.aload_n 1, 1) := by decide +kernel
theorem d_La_law_124 : decode code 124 = .ok (.aload_n 0, 1) := by decide +kernel
theorem d_La_law_125 : decode code 125 = .ok (.iload_n 3, 1) := by decide +kernel
theorem d_La_law_126 : decode code 126 = .ok (.iconst 1, 1) := by decide +kernel
theorem d_La_law_127 : decode code 127 = .ok (.iadd, 1) := by decide +kernel
theorem d_La_law_128 : decode code 128 = .ok (.iaload, 1) := by decide +kernel
theorem d_La_law_129 : decode code 129 = .ok (.aload_n 0, 1) := by decide +kernel
theorem d_La_law_130 : decode code 130 = .ok (.iload_n 3, 1) := by decide +kernel
theorem d_La_law_131 : decode code 131 = .ok (.iconst 2, 1) := by decide +kernel
theorem d_La_law_132 : decode code 132 = .ok (.iadd, 1) := by decide +kernel
theorem d_La_law_133 : decode code 133 = .ok (.iaload, 1) := by decide +kernel
theorem d_La_law_134 : decode code 134 = .ok (.invokevirtual 18, 3) := by decide +kernel
theorem d_La_law_137 : decode code 137 = .ok (.aload_n 2, 1) := by decide +kernel
theorem d_La_law_138 : decode code 138 = .ok (.aload_n 0, 1) := by decide +kernel
theorem d_La_law_139 : decode code 139 = .ok (.iload_n 3, 1) := by decide +kernel
theorem d_La_law_140 : decode code 140 = .ok (.iconst 1, 1) := by decide +kernel
theorem d_La_law_141 : decode code 141 = .ok (.iadd, 1) := by decide +kernel
theorem d_La_law_142 : decode code 142 = .ok (.iaload, 1) := by decide +kernel
theorem d_La_law_143 : decode code 143 = .ok (.aload_n 0, 1) := by decide +kernel
theorem d_La_law_144 : decode code 144 = .ok (.iload_n 3, 1) := by decide +kernel
theorem d_La_law_145 : decode code 145 = .ok (.iconst 2, 1) := by decide +kernel
theorem d_La_law_146 : decode code 146 = .ok (.iadd, 1) := by decide +kernel
theorem d_La_law_147 : decode code 147 = .ok (.iaload, 1) := by decide +kernel
theorem d_La_law_148 : decode code 148 = .ok (.invokevirtual 22, 3) := by decide +kernel
theorem d_La_law_151 : decode code 151 = .ok (.if_icmp .eq 320, 3) := by decide +kernel
theorem d_La_law_154 : decode code 154 = .ok (.iconst 0, 1) := by decide +kernel
theorem d_La_law_155 : decode code 155 = .ok (.ireturn, 1) := by decide +kernel
theorem d_La_law_156 : decode code 156 = .ok (.aload_n 1, 1) := by decide +kernel
theorem d_La_law_157 : decode code 157 = .ok (.aload_n 0, 1) := by decide +kernel
theorem d_La_law_158 : decode code 158 = .ok (.iload_n 3, 1) := by decide +kernel
theorem d_La_law_159 : decode code 159 = .ok (.iconst 1, 1) := by decide +kernel
theorem d_La_law_160 : decode code 160 = .ok (.iadd, 1) := by decide +kernel
theorem d_La_law_161 : decode code 161 = .ok (.iaload, 1) := by decide +kernel
theorem d_La_law_162 : decode code 162 = .ok (.aload_n 0, 1) := by decide +kernel
theorem d_La_law_163 : decode code 163 = .ok (.iload_n 3, 1) := by decide +kernel
theorem d_La_law_164 : decode code 164 = .ok (.iconst 2, 1) := by decide +kernel
theorem d_La_law_165 : decode code 165 = .ok (.iadd, 1) := by decide +kernel
theorem d_La_law_166 : decode code 166 = .ok (.iaload, 1) := by decide +kernel
theorem d_La_law_167 : decode code 167 = .ok (.invokevirtual 23, 3) := by decide +kernel
theorem d_La_law_170 : decode code 170 = .ok (.aload_n 2, 1) := by decide +kernel
theorem d_La_law_171 : decode code 171 = .ok (.aload_n 0, 1) := by decide +kernel
theorem d_La_law_172 : decode code 172 = .ok (.iload_n 3, 1) := by decide +kernel
theorem d_La_law_173 : decode code 173 = .ok (.iconst 1, 1) := by decide +kernel
theorem d_La_law_174 : decode code 174 = .ok (.iadd, 1) := by decide +kernel
theorem d_La_law_175 : decode code 175 = .ok (.iaload, 1) := by decide +kernel
theorem d_La_law_176 : decode code 176 = .ok (.aload_n 0, 1) := by decide +kernel
theorem d_La_law_177 : decode code 177 = .ok (.iload_n 3, 1) := by decide +kernel
theorem d_La_law_178 : decode code 178 = .ok (.iconst 2, 1) := by decide +kernel
theorem d_La_law_179 : decode code 179 = .ok (.iadd, 1) := by decide +kernel
theorem d_La_law_180 : decode code 180 = .ok (.iaload, 1) := by decide +kernel
theorem d_La_law_181 : decode code 181 = .ok (.invokevirtual 27, 3) := by decide +kernel
theorem d_La_law_184 : decode code 184 = .ok (.if_icmp .eq 287, 3) := by decide +kernel
theorem d_La_law_187 : decode code 187 = .ok (.iconst 0, 1) := by decide +kernel
theorem d_La_law_188 : decode code 188 = .ok (.ireturn, 1) := by decide +kernel
theorem d_La_law_189 : decode code 189 = .ok (.aload_n 1, 1) := by decide +kernel
theorem d_La_law_190 : decode code 190 = .ok (.invokevirtual 28, 3) := by decide +kernel
theorem d_La_law_193 : decode code 193 = .ok (.aload_n 2, 1) := by decide +kernel
theorem d_La_law_194 : decode code 194 = .ok (.invokevirtual 32, 3) := by decide +kernel
theorem d_La_law_197 : decode code 197 = .ok (.if_icmp .eq 274, 3) := by decide +kernel
theorem d_La_law_200 : decode code 200 = .ok (.iconst 0, 1) := by decide +kernel
theorem d_La_law_201 : decode code 201 = .ok (.ireturn, 1) := by decide +kernel
theorem d_La_law_202 : decode code 202 = .ok (.aload_n 1, 1) := by decide +kernel
theorem d_La_law_203 : decode code 203 = .ok (.invokevirtual 33, 3) := by decide +kernel
theorem d_La_law_206 : decode code 206 = .ok (.aload_n 2, 1) := by decide +kernel
theorem d_La_law_207 : decode code 207 = .ok (.invokevirtual 36, 3) := by decide +kernel
theorem d_La_law_210 : decode code 210 = .ok (.if_icmp .eq 261, 3) := by decide +kernel
theorem d_La_law_213 : decode code 213 = .ok (.iconst 0, 1) := by decide +kernel
theorem d_La_law_214 : decode code 214 = .ok (.ireturn, 1) := by decide +kernel
theorem d_La_law_215 : decode code 215 = .ok (.aload_n 1, 1) := by decide +kernel
theorem d_La_law_216 : decode code 216 = .ok (.aload_n 0, 1) := by decide +kernel
theorem d_La_law_217 : decode code 217 = .ok (.iload_n 3, 1) := by decide +kernel
theorem d_La_law_218 : decode code 218 = .ok (.iconst 1, 1) := by decide +kernel
theorem d_La_law_219 : decode code 219 = .ok (.iadd, 1) := by decide +kernel
theorem d_La_law_220 : decode code 220 = .ok (.iaload, 1) := by decide +kernel
theorem d_La_law_221 : decode code 221 = .ok (.aload_n 0, 1) := by decide +kernel
theorem d_La_law_222 : decode code 222 = .ok (.iload_n 3, 1) := by decide +kernel
theorem d_La_law_223 : decode code 223 = .ok (.iconst 2, 1) := by decide +kernel
theorem d_La_law_224 : decode code 224 = .ok (.iadd, 1) := by decide +kernel
theorem d_La_law_225 : decode code 225 = .ok (.iaload, 1) := by decide +kernel
theorem d_La_law_226 : decode code 226 = .ok (.aload_n 0, 1) := by decide +kernel
theorem d_La_law_227 : decode code 227 = .ok (.iload_n 3, 1) := by decide +kernel
theorem d_La_law_228 : decode code 228 = .ok (.iconst 3, 1) := by decide +kernel
theorem d_La_law_229 : decode code 229 = .ok (.iadd, 1) := by decide +kernel
theorem d_La_law_230 : decode code 230 = .ok (.iaload, 1) := by decide +kernel
theorem d_La_law_231 : decode code 231 = .ok (.aload_n 0, 1) := by decide +kernel
theorem d_La_law_232 : decode code 232 = .ok (.iload_n 3, 1) := by decide +kernel
theorem d_La_law_233 : decode code 233 = .ok (.iconst 4, 1) := by decide +kernel
theorem d_La_law_234 : decode code 234 = .ok (.iadd, 1) := by decide +kernel
theorem d_La_law_235 : decode code 235 = .ok (.iaload, 1) := by decide +kernel
theorem d_La_law_236 : decode code 236 = .ok (.invokevirtual 37, 3) := by decide +kernel
theorem d_La_law_239 : decode code 239 = .ok (.aload_n 2, 1) := by decide +kernel
theorem d_La_law_240 : decode code 240 = .ok (.aload_n 0, 1) := by decide +kernel
theorem d_La_law_241 : decode code 241 = .ok (.iload_n 3, 1) := by decide +kernel
theorem d_La_law_242 : decode code 242 = .ok (.iconst 1, 1) := by decide +kernel
theorem d_La_law_243 : decode code 243 = .ok (.iadd, 1) := by decide +kernel
theorem d_La_law_244 : decode code 244 = .ok (.iaload, 1) := by decide +kernel
theorem d_La_law_245 : decode code 245 = .ok (.aload_n 0, 1) := by decide +kernel
theorem d_La_law_246 : decode code 246 = .ok (.iload_n 3, 1) := by decide +kernel
theorem d_La_law_247 : decode code 247 = .ok (.iconst 2, 1) := by decide +kernel
theorem d_La_law_248 : decode code 248 = .ok (.iadd, 1) := by decide +kernel
theorem d_La_law_249 : decode code 249 = .ok (.iaload, 1) := by decide +kernel
theorem d_La_law_250 : decode code 250 = .ok (.aload_n 0, 1) := by decide +kernel
theorem d_La_law_251 : decode code 251 = .ok (.iload_n 3, 1) := by decide +kernel
theorem d_La_law_252 : decode code 252 = .ok (.iconst 3, 1) := by decide +kernel
theorem d_La_law_253 : decode code 253 = .ok (.iadd, 1) := by decide +kernel
theorem d_La_law_254 : decode code 254 = .ok (.iaload, 1) := by decide +kernel
theorem d_La_law_255 : decode code 255 = .ok (.aload_n 0, 1) := by decide +kernel
theorem d_La_law_256 : decode code 256 = .ok (.iload_n 3, 1) := by decide +kernel
theorem d_La_law_257 : decode code 257 = .ok (.iconst 4, 1) := by decide +kernel
theorem d_La_law_258 : decode code 258 = .ok (.iadd, 1) := by decide +kernel
theorem d_La_law_259 : decode code 259 = .ok (.iaload, 1) := by decide +kernel
theorem d_La_law_260 : decode code 260 = .ok (.invokevirtual 41, 3) := by decide +kernel
theorem d_La_law_263 : decode code 263 = .ok (.if_icmp .eq 208, 3) := by decide +kernel
theorem d_La_law_266 : decode code 266 = .ok (.iconst 0, 1) := by decide +kernel
theorem d_La_law_267 : decode code 267 = .ok (.ireturn, 1) := by decide +kernel
theorem d_La_law_268 : decode code 268 = .ok (.aload_n 1, 1) := by decide +kernel
theorem d_La_law_269 : decode code 269 = .ok (.invokevirtual 42, 3) := by decide +kernel
theorem d_La_law_272 : decode code 272 = .ok (.aload_n 2, 1) := by decide +kernel
theorem d_La_law_273 : decode code 273 = .ok (.invokevirtual 46, 3) := by decide +kernel
theorem d_La_law_276 : decode code 276 = .ok (.lcmp, 1) := by decide +kernel
theorem d_La_law_277 : decode code 277 = .ok (.ifCond .eq 194, 3) := by decide +kernel
theorem d_La_law_280 : decode code 280 = .ok (.iconst 0, 1) := by decide +kernel
theorem d_La_law_281 : decode code 281 = .ok (.ireturn, 1) := by decide +kernel
theorem d_La_law_282 : decode code 282 = .ok (.aload_n 1, 1) := by decide +kernel
theorem d_La_law_283 : decode code 283 = .ok (.invokevirtual 47, 3) := by decide +kernel
theorem d_La_law_286 : decode code 286 = .ok (.aload_n 2, 1) := by decide +kernel
theorem d_La_law_287 : decode code 287 = .ok (.invokevirtual 50, 3) := by decide +kernel
theorem d_La_law_290 : decode code 290 = .ok (.if_icmp .eq 181, 3) := by decide +kernel
theorem d_La_law_293 : decode code 293 = .ok (.iconst 0, 1) := by decide +kernel
theorem d_La_law_294 : decode code 294 = .ok (.ireturn, 1) := by decide +kernel
theorem d_La_law_295 : decode code 295 = .ok (.aload_n 1, 1) := by decide +kernel
theorem d_La_law_296 : decode code 296 = .ok (.invokevirtual 51, 3) := by decide +kernel
theorem d_La_law_299 : decode code 299 = .ok (.aload_n 2, 1) := by decide +kernel
theorem d_La_law_300 : decode code 300 = .ok (.invokevirtual 54, 3) := by decide +kernel
theorem d_La_law_303 : decode code 303 = .ok (.if_icmp .eq 168, 3) := by decide +kernel
theorem d_La_law_306 : decode code 306 = .ok (.iconst 0, 1) := by decide +kernel
theorem d_La_law_307 : decode code 307 = .ok (.ireturn, 1) := by decide +kernel
theorem d_La_law_308 : decode code 308 = .ok (.aload_n 1, 1) := by decide +kernel
theorem d_La_law_309 : decode code 309 = .ok (.aload_n 0, 1) := by decide +kernel
theorem d_La_law_310 : decode code 310 = .ok (.iload_n 3, 1) := by decide +kernel
theorem d_La_law_311 : decode code 311 = .ok (.iconst 1, 1) := by decide +kernel
theorem d_La_law_312 : decode code 312 = .ok (.iadd, 1) := by decide +kernel
theorem d_La_law_313 : decode code 313 = .ok (.iaload, 1) := by decide +kernel
theorem d_La_law_314 : decode code 314 = .ok (.invokevirtual 55, 3) := by decide +kernel
theorem d_La_law_317 : decode code 317 = .ok (.aload_n 2, 1) := by decide +kernel
theorem d_La_law_318 : decode code 318 = .ok (.aload_n 0, 1) := by decide +kernel
theorem d_La_law_319 : decode code 319 = .ok (.iload_n 3, 1) := by decide +kernel
theorem d_La_law_320 : decode code 320 = .ok (.iconst 1, 1) := by decide +kernel
theorem d_La_law_321 : decode code 321 = .ok (.iadd, 1) := by decide +kernel
theorem d_La_law_322 : decode code 322 = .ok (.iaload, 1) := by decide +kernel
theorem d_La_law_323 : decode code 323 = .ok (.invokevirtual 58, 3) := by decide +kernel
theorem d_La_law_326 : decode code 326 = .ok (.if_icmp .eq 145, 3) := by decide +kernel
theorem d_La_law_329 : decode code 329 = .ok (.iconst 0, 1) := by decide +kernel
theorem d_La_law_330 : decode code 330 = .ok (.ireturn, 1) := by decide +kernel
theorem d_La_law_331 : decode code 331 = .ok (.aload_n 1, 1) := by decide +kernel
theorem d_La_law_332 : decode code 332 = .ok (.aload_n 0, 1) := by decide +kernel
theorem d_La_law_333 : decode code 333 = .ok (.iload_n 3, 1) := by decide +kernel
theorem d_La_law_334 : decode code 334 = .ok (.iconst 1, 1) := by decide +kernel
theorem d_La_law_335 : decode code 335 = .ok (.iadd, 1) := by decide +kernel
theorem d_La_law_336 : decode code 336 = .ok (.iaload, 1) := by decide +kernel
theorem d_La_law_337 : decode code 337 = .ok (.invokevirtual 59, 3) := by decide +kernel
theorem d_La_law_340 : decode code 340 = .ok (.aload_n 2, 1) := by decide +kernel
theorem d_La_law_341 : decode code 341 = .ok (.aload_n 0, 1) := by decide +kernel
theorem d_La_law_342 : decode code 342 = .ok (.iload_n 3, 1) := by decide +kernel
theorem d_La_law_343 : decode code 343 = .ok (.iconst 1, 1) := by decide +kernel
theorem d_La_law_344 : decode code 344 = .ok (.iadd, 1) := by decide +kernel
theorem d_La_law_345 : decode code 345 = .ok (.iaload, 1) := by decide +kernel
theorem d_La_law_346 : decode code 346 = .ok (.invokevirtual 62, 3) := by decide +kernel
theorem d_La_law_349 : decode code 349 = .ok (.if_icmp .eq 122, 3) := by decide +kernel
theorem d_La_law_352 : decode code 352 = .ok (.iconst 0, 1) := by decide +kernel
theorem d_La_law_353 : decode code 353 = .ok (.ireturn, 1) := by decide +kernel
theorem d_La_law_354 : decode code 354 = .ok (.aload_n 1, 1) := by decide +kernel
theorem d_La_law_355 : decode code 355 = .ok (.aload_n 0, 1) := by decide +kernel
theorem d_La_law_356 : decode code 356 = .ok (.iload_n 3, 1) := by decide +kernel
theorem d_La_law_357 : decode code 357 = .ok (.iconst 1, 1) := by decide +kernel
theorem d_La_law_358 : decode code 358 = .ok (.iadd, 1) := by decide +kernel
theorem d_La_law_359 : decode code 359 = .ok (.iaload, 1) := by decide +kernel
theorem d_La_law_360 : decode code 360 = .ok (.aload_n 0, 1) := by decide +kernel
theorem d_La_law_361 : decode code 361 = .ok (.iload_n 3, 1) := by decide +kernel
theorem d_La_law_362 : decode code 362 = .ok (.iconst 2, 1) := by decide +kernel
theorem d_La_law_363 : decode code 363 = .ok (.iadd, 1) := by decide +kernel
theorem d_La_law_364 : decode code 364 = .ok (.iaload, 1) := by decide +kernel
theorem d_La_law_365 : decode code 365 = .ok (.invokevirtual 63, 3) := by decide +kernel
theorem d_La_law_368 : decode code 368 = .ok (.aload_n 2, 1) := by decide +kernel
theorem d_La_law_369 : decode code 369 = .ok (.aload_n 0, 1) := by decide +kernel
theorem d_La_law_370 : decode code 370 = .ok (.iload_n 3, 1) := by decide +kernel
theorem d_La_law_371 : decode code 371 = .ok (.iconst 1, 1) := by decide +kernel
theorem d_La_law_372 : decode code 372 = .ok (.iadd, 1) := by decide +kernel
theorem d_La_law_373 : decode code 373 = .ok (.iaload, 1) := by decide +kernel
theorem d_La_law_374 : decode code 374 = .ok (.aload_n 0, 1) := by decide +kernel
theorem d_La_law_375 : decode code 375 = .ok (.iload_n 3, 1) := by decide +kernel
theorem d_La_law_376 : decode code 376 = .ok (.iconst 2, 1) := by decide +kernel
theorem d_La_law_377 : decode code 377 = .ok (.iadd, 1) := by decide +kernel
theorem d_La_law_378 : decode code 378 = .ok (.iaload, 1) := by decide +kernel
theorem d_La_law_379 : decode code 379 = .ok (.invokevirtual 67, 3) := by decide +kernel
theorem d_La_law_382 : decode code 382 = .ok (.lcmp, 1) := by decide +kernel
theorem d_La_law_383 : decode code 383 = .ok (.ifCond .eq 88, 3) := by decide +kernel
theorem d_La_law_386 : decode code 386 = .ok (.iconst 0, 1) := by decide +kernel
theorem d_La_law_387 : decode code 387 = .ok (.ireturn, 1) := by decide +kernel
theorem d_La_law_388 : decode code 388 = .ok (.aload_n 1, 1) := by decide +kernel
theorem d_La_law_389 : decode code 389 = .ok (.aload_n 0, 1) := by decide +kernel
theorem d_La_law_390 : decode code 390 = .ok (.iload_n 3, 1) := by decide +kernel
theorem d_La_law_391 : decode code 391 = .ok (.iconst 1, 1) := by decide +kernel
theorem d_La_law_392 : decode code 392 = .ok (.iadd, 1) := by decide +kernel
theorem d_La_law_393 : decode code 393 = .ok (.iaload, 1) := by decide +kernel
theorem d_La_law_394 : decode code 394 = .ok (.aload_n 0, 1) := by decide +kernel
theorem d_La_law_395 : decode code 395 = .ok (.iload_n 3, 1) := by decide +kernel
theorem d_La_law_396 : decode code 396 = .ok (.iconst 2, 1) := by decide +kernel
theorem d_La_law_397 : decode code 397 = .ok (.iadd, 1) := by decide +kernel
theorem d_La_law_398 : decode code 398 = .ok (.iaload, 1) := by decide +kernel
theorem d_La_law_399 : decode code 399 = .ok (.aload_n 0, 1) := by decide +kernel
theorem d_La_law_400 : decode code 400 = .ok (.iload_n 3, 1) := by decide +kernel
theorem d_La_law_401 : decode code 401 = .ok (.iconst 3, 1) := by decide +kernel
theorem d_La_law_402 : decode code 402 = .ok (.iadd, 1) := by decide +kernel
theorem d_La_law_403 : decode code 403 = .ok (.iaload, 1) := by decide +kernel
theorem d_La_law_404 : decode code 404 = .ok (.aload_n 0, 1) := by decide +kernel
theorem d_La_law_405 : decode code 405 = .ok (.iload_n 3, 1) := by decide +kernel
theorem d_La_law_406 : decode code 406 = .ok (.iconst 4, 1) := by decide +kernel
theorem d_La_law_407 : decode code 407 = .ok (.iadd, 1) := by decide +kernel
theorem d_La_law_408 : decode code 408 = .ok (.iaload, 1) := by decide +kernel
theorem d_La_law_409 : decode code 409 = .ok (.i2l, 1) := by decide +kernel
theorem d_La_law_410 : decode code 410 = .ok (.bipush 32, 2) := by decide +kernel
theorem d_La_law_412 : decode code 412 = .ok (.lshl, 1) := by decide +kernel
theorem d_La_law_413 : decode code 413 = .ok (.aload_n 0, 1) := by decide +kernel
theorem d_La_law_414 : decode code 414 = .ok (.iload_n 3, 1) := by decide +kernel
theorem d_La_law_415 : decode code 415 = .ok (.iconst 5, 1) := by decide +kernel
theorem d_La_law_416 : decode code 416 = .ok (.iadd, 1) := by decide +kernel
theorem d_La_law_417 : decode code 417 = .ok (.iaload, 1) := by decide +kernel
theorem d_La_law_418 : decode code 418 = .ok (.i2l, 1) := by decide +kernel
theorem d_La_law_419 : decode code 419 = .ok (.ldc2_w 68, 3) := by decide +kernel
theorem d_La_law_422 : decode code 422 = .ok (.land, 1) := by decide +kernel
theorem d_La_law_423 : decode code 423 = .ok (.lor, 1) := by decide +kernel
theorem d_La_law_424 : decode code 424 = .ok (.invokevirtual 70, 3) := by decide +kernel
theorem d_La_law_427 : decode code 427 = .ok (.aload_n 2, 1) := by decide +kernel
theorem d_La_law_428 : decode code 428 = .ok (.aload_n 0, 1) := by decide +kernel
theorem d_La_law_429 : decode code 429 = .ok (.iload_n 3, 1) := by decide +kernel
theorem d_La_law_430 : decode code 430 = .ok (.iconst 1, 1) := by decide +kernel
theorem d_La_law_431 : decode code 431 = .ok (.iadd, 1) := by decide +kernel
theorem d_La_law_432 : decode code 432 = .ok (.iaload, 1) := by decide +kernel
theorem d_La_law_433 : decode code 433 = .ok (.aload_n 0, 1) := by decide +kernel
theorem d_La_law_434 : decode code 434 = .ok (.iload_n 3, 1) := by decide +kernel
theorem d_La_law_435 : decode code 435 = .ok (.iconst 2, 1) := by decide +kernel
theorem d_La_law_436 : decode code 436 = .ok (.iadd, 1) := by decide +kernel
theorem d_La_law_437 : decode code 437 = .ok (.iaload, 1) := by decide +kernel
theorem d_La_law_438 : decode code 438 = .ok (.aload_n 0, 1) := by decide +kernel
theorem d_La_law_439 : decode code 439 = .ok (.iload_n 3, 1) := by decide +kernel
theorem d_La_law_440 : decode code 440 = .ok (.iconst 3, 1) := by decide +kernel
theorem d_La_law_441 : decode code 441 = .ok (.iadd, 1) := by decide +kernel
theorem d_La_law_442 : decode code 442 = .ok (.iaload, 1) := by decide +kernel
theorem d_La_law_443 : decode code 443 = .ok (.aload_n 0, 1) := by decide +kernel
theorem d_La_law_444 : decode code 444 = .ok (.iload_n 3, 1) := by decide +kernel
theorem d_La_law_445 : decode code 445 = .ok (.iconst 4, 1) := by decide +kernel
theorem d_La_law_446 : decode code 446 = .ok (.iadd, 1) := by decide +kernel
theorem d_La_law_447 : decode code 447 = .ok (.iaload, 1) := by decide +kernel
theorem d_La_law_448 : decode code 448 = .ok (.i2l, 1) := by decide +kernel
theorem d_La_law_449 : decode code 449 = .ok (.bipush 32, 2) := by decide +kernel
theorem d_La_law_451 : decode code 451 = .ok (.lshl, 1) := by decide +kernel
theorem d_La_law_452 : decode code 452 = .ok (.aload_n 0, 1) := by decide +kernel
theorem d_La_law_453 : decode code 453 = .ok (.iload_n 3, 1) := by decide +kernel
theorem d_La_law_454 : decode code 454 = .ok (.iconst 5, 1) := by decide +kernel
theorem d_La_law_455 : decode code 455 = .ok (.iadd, 1) := by decide +kernel
theorem d_La_law_456 : decode code 456 = .ok (.iaload, 1) := by decide +kernel
theorem d_La_law_457 : decode code 457 = .ok (.i2l, 1) := by decide +kernel
theorem d_La_law_458 : decode code 458 = .ok (.ldc2_w 68, 3) := by decide +kernel
theorem d_La_law_461 : decode code 461 = .ok (.land, 1) := by decide +kernel
theorem d_La_law_462 : decode code 462 = .ok (.lor, 1) := by decide +kernel
theorem d_La_law_463 : decode code 463 = .ok (.invokevirtual 74, 3) := by decide +kernel
theorem d_La_law_466 : decode code 466 = .ok (.if_icmp .eq 5, 3) := by decide +kernel
theorem d_La_law_469 : decode code 469 = .ok (.iconst 0, 1) := by decide +kernel
theorem d_La_law_470 : decode code 470 = .ok (.ireturn, 1) := by decide +kernel
theorem d_La_law_471 : decode code 471 = .ok (.iinc 3 6, 3) := by decide +kernel
theorem d_La_law_474 : decode code 474 = .ok (.goto (-456), 3) := by decide +kernel
theorem d_La_law_477 : decode code 477 = .ok (.iconst 1, 1) := by decide +kernel
theorem d_La_law_478 : decode code 478 = .ok (.ireturn, 1) := by decide +kernel
set_option maxRecDepth 100000 in
set_option maxHeartbeats 4000000 in
/-- behind the call: the script is at its end -/
theorem law_end {p : Program} {l : Launch} {e : Env} {s : State} {m : MethodId} {below : List Frame} {meth : Method} {c : Code} {G : va_G} {k : Nat → ClassId} {b : Nat} {xs : Nat → Int32} {A : Nat → Prop} (C : Cx p s m #[Value.ref b] meth c code "PotentialBenchLaw" 4 ret meth.name) (K : Kn G k s) (hX : va_X b 6 xs s s.heap) (hbl : b < s.heap.size) (hA : ∀ q, s.heap.size ≤ q → A q) (hA2 : ∀ q, A q → s.heap.size ≤ q) {H : Heap} {locs : List Loc} {cells slots : Nat} (hc : cells ≤ 600000) (hs : slots ≤ 7302250) {ws : va_W} (S : Sw G A s.heap H locs ws) {r2 r1 : Nat} (ls : Array Slot) (hl : lv_has ls 4 [(3, .int 0), (2, .ref r2), (1, .ref r1), (0, .ref b)]) : W p l e room_1 s m #[Value.ref b] below meth c H locs cells slots (lw_Z below #[Value.ref b] s) (F0 m 471 ls []) := by
  have hx := C.1
  have hb := C.2.1
  have hbA : ¬ A b := fun h => absurd (hA2 b h) (Nat.not_le.mpr hbl)
  refine lv_iinc (v := 6) (lv' := [(3, .int 6), (2, .ref r2), (1, .ref r1), (0, .ref b)]) hx hb d_La_law_471 hl (k := 0) rfl (by decide) (by decide) rfl (fun ls hl => ?_)
  refine lv_goto (tgt := 18) hx hb d_La_law_474 (by decide) ?_
  refine lv_iload_n hx hb d_La_law_18 rfl (lv_at hl 0 rfl) ?_
  refine lv_aload_n hx hb d_La_law_19 rfl (lv_at hl 3 rfl) ?_
  refine va_slen hx hb hX hbl hbA S.2.2 d_La_law_20 ?_
  refine lv_bipush (v := 6) hx hb d_La_law_21 (by decide) ?_
  refine lv_isub hx hb d_La_law_23 ?_
  refine lv_icmp_gt (tgt := 477) hx hb d_La_law_24 (by decide) (fun _ => ?_) (fun hq => absurd (by decide) hq)
  refine lv_iconst (v := 1) hx hb d_La_law_477 (by decide) ?_
  refine va_forget (fun q hq => hA2 _ (S.2.2.2.2 q hq)) ?_
  refine W.widen (k := 600000) (n := 7302250) hc hs ?_
  exact lw_ret hx hb C.2.2.2.2.2.1 C.2.2.2.2.2.2.1 d_La_law_478
set_option maxRecDepth 100000 in
set_option maxHeartbeats 4000000 in
theorem law_c0 {p : Program} {l : Launch} {e : Env} {s : State} {m : MethodId} {below : List Frame} {meth : Method} {c : Code} {G : va_G} {k : Nat → ClassId} {b : Nat} {xs : Nat → Int32} {A : Nat → Prop} (C : Cx p s m #[Value.ref b] meth c code "PotentialBenchLaw" 4 ret meth.name) (K : Kn G k s) (hX : va_X b 6 xs s s.heap) (hbl : b < s.heap.size) (hA : ∀ q, s.heap.size ≤ q → A q) (hA2 : ∀ q, A q → s.heap.size ≤ q) {H : Heap} {locs : List Loc} {pb mo : Nat} {u v : Nat → Nat} (S : Sw G A s.heap H locs [(pb, .inr (0, [.ref (u 0), .ref (u 29), .ref (u 30), .ref (u 35), .ref (u 43), .ref (u 59), .int 0, .int (-2), .int 0])), ((u 0), .inl (k 3, 4, .inr (.inr (.inr (.inr (va_up (va_up (va_up (va_up (fun _ => none) 0 (some (u 1))) 1 (some (u 8))) 2 (some (u 15))) 3 (some (u 22)))))))), ((u 1), .inr (4, [.ref (u 2), .ref (u 3), .ref (u 4), .ref (u 5), .ref (u 6), .ref (u 7), .int 0, .int 0, .int 0])), ((u 30), .inr (6, [.ref (u 0), .ref (u 31), .ref (u 32), .ref (u 33), .ref (u 34), .int 0, .int 0, .int 0, .int 0, .int 0, .long 0, .int (-2)])), ((u 59), .inr (3, [.ref (u 60), .ref (u 61), .ref (u 63), .ref (u 65), .ref (u 67), .ref (u 69), .int 0, .int 0])), (mo, .inr (8, [.int 0, .ref (v 0), .ref (v 1), .ref (v 2), .int (-2), .ref (v 3), .ref (v 4), .ref (v 5), .ref (v 6), .int 0, .long 0, .int (-2), .int 0, .ref (v 7), .ref (v 8), .ref (v 9), .ref (v 10), .ref (v 11), .int 0, .ref (v 12), .int 0, .int 0, .int 0, .int 0, .int 0, .int 0, .int 0, .ref (v 13), .int 0, .int 0, .int 0, .int 0, .ref (v 14), .ref (v 15), .int 0, .ref (v 16), .ref (v 17), .ref (v 18), .ref (v 19), .ref (v 20), .int 0, .ref (v 21), .ref (v 22), .ref (v 23), .ref (v 24), .ref (v 25), .ref (v 26), .ref (v 27), .int 0, .int 0, .int 0, .int 0, .int 0, .int 0, .int 0, .ref (v 28), .ref (v 29), .int 0, .int 0, .int 0, .int 0])), ((v 0), .inl (k 0, 4, .inl (fun _ => 0))), ((v 2), .inl (k 0, 4, .inl (fun _ => 0)))]) (ls : Array Slot) (hl : lv_has ls 4 [(3, .int 0), (2, .ref mo), (1, .ref pb), (0, .ref b)]) : W p l e room_1 s m #[Value.ref b] below meth c H locs 541 404588 (lw_Z below #[Value.ref b] s) (F0 m 100 ls []) := by
  have hx := C.1
  have hb := C.2.1
  have hbA : ¬ A b := fun h => absurd (hA2 b h) (Nat.not_le.mpr hbl)
  refine lv_aload_n hx hb d_La_law_100 rfl (lv_at hl 2 rfl) ?_
  refine lv_aload_n hx hb d_La_law_101 rfl (lv_at hl 3 rfl) ?_
  refine lv_iload_n hx hb d_La_law_102 rfl (lv_at hl 0 rfl) ?_
  refine lv_iconst (v := 1) hx hb d_La_law_103 (by decide) ?_
  refine lv_iadd hx hb d_La_law_104 ?_
  rw [show (0 : Int32) + 1 = 1 from by decide]
  refine va_sld hx hb hX hbl hbA S.2.2 (i := 1) (by unfold vp_in; decide) d_La_law_105 ?_
  refine r_backi (wi := [(pb, .inr (0, [.ref (u 0), .ref (u 29), .ref (u 30), .ref (u 35), .ref (u 43), .ref (u 59), .int 0, .int (-2), .int 0])), ((u 0), .inl (k 3, 4, .inr (.inr (.inr (.inr (va_up (va_up (va_up (va_up (fun _ => none) 0 (some (u 1))) 1 (some (u 8))) 2 (some (u 15))) 3 (some (u 22)))))))), ((u 1), .inr (4, [.ref (u 2), .ref (u 3), .ref (u 4), .ref (u 5), .ref (u 6), .ref (u 7), .int 0, .int 0, .int 0]))]) (wr := [((u 30), .inr (6, [.ref (u 0), .ref (u 31), .ref (u 32), .ref (u 33), .ref (u 34), .int 0, .int 0, .int 0, .int 0, .int 0, .long 0, .int (-2)])), ((u 59), .inr (3, [.ref (u 60), .ref (u 61), .ref (u 63), .ref (u 65), .ref (u 67), .ref (u 69), .int 0, .int 0])), (mo, .inr (8, [.int 0, .ref (v 0), .ref (v 1), .ref (v 2), .int (-2), .ref (v 3), .ref (v 4), .ref (v 5), .ref (v 6), .int 0, .long 0, .int (-2), .int 0, .ref (v 7), .ref (v 8), .ref (v 9), .ref (v 10), .ref (v 11), .int 0, .ref (v 12), .int 0, .int 0, .int 0, .int 0, .int 0, .int 0, .int 0, .ref (v 13), .int 0, .int 0, .int 0, .int 0, .ref (v 14), .ref (v 15), .int 0, .ref (v 16), .ref (v 17), .ref (v 18), .ref (v 19), .ref (v 20), .int 0, .ref (v 21), .ref (v 22), .ref (v 23), .ref (v 24), .ref (v 25), .ref (v 26), .ref (v 27), .int 0, .int 0, .int 0, .int 0, .int 0, .int 0, .int 0, .ref (v 28), .ref (v 29), .int 0, .int 0, .int 0, .int 0])), ((v 0), .inl (k 0, 4, .inl (fun _ => 0))), ((v 2), .inl (k 0, 4, .inl (fun _ => 0)))]) S hA [0, 1, 2] [3, 4, 5, 6, 7] rfl rfl (by decide) (by decide) (va_runV (As := [.int (xs (Int32.toNatClampNeg 1))]) (rest := []) ⟨hx, hb, C.2.2.1, C.2.2.2.1, C.2.2.2.2.1⟩ (f_PB_function l G k pb _ (u 0) (u 29) (u 30) (u 35) (u 43) (u 59) (u 1) (u 2) (u 3) (u 4) (u 5) (u 6) (u 7) (va_up (va_up (va_up (va_up (fun _ => none) 0 (some (u 1))) 1 (some (u 8))) 2 (some (u 15))) 3 (some (u 22))) rfl (xs (Int32.toNatClampNeg 1))) (k_virt (n := 1) C wc_PB_function rfl rfl wz_PB wm_La_13 wn_PB_function ws_PB_function (by decide +kernel) ⟨(Nat.le_of_ble_eq_true rfl), (Nat.le_of_ble_eq_true rfl)⟩) (pr_nowV K S [0, 1, 2] (by decide) rfl 0 rfl rfl) rfl rfl hl.1 rfl (lv_room (Nat.le_of_ble_eq_true rfl)) d_La_law_106 ⟨(Nat.le_of_ble_eq_true rfl), (Nat.le_of_ble_eq_true rfl)⟩) (fun r4 u2 H locs hw3 S => ?_)
  have S : Sw G A s.heap _ _ [((u 30), .inr (6, [.ref (u 0), .ref (u 31), .ref (u 32), .ref (u 33), .ref (u 34), .int 0, .int 0, .int 0, .int 0, .int 0, .long 0, .int (-2)])), ((u 59), .inr (3, [.ref (u 60), .ref (u 61), .ref (u 63), .ref (u 65), .ref (u 67), .ref (u 69), .int 0, .int 0])), (mo, .inr (8, [.int 0, .ref (v 0), .ref (v 1), .ref (v 2), .int (-2), .ref (v 3), .ref (v 4), .ref (v 5), .ref (v 6), .int 0, .long 0, .int (-2), .int 0, .ref (v 7), .ref (v 8), .ref (v 9), .ref (v 10), .ref (v 11), .int 0, .ref (v 12), .int 0, .int 0, .int 0, .int 0, .int 0, .int 0, .int 0, .ref (v 13), .int 0, .int 0, .int 0, .int 0, .ref (v 14), .ref (v 15), .int 0, .ref (v 16), .ref (v 17), .ref (v 18), .ref (v 19), .ref (v 20), .int 0, .ref (v 21), .ref (v 22), .ref (v 23), .ref (v 24), .ref (v 25), .ref (v 26), .ref (v 27), .int 0, .int 0, .int 0, .int 0, .int 0, .int 0, .int 0, .ref (v 28), .ref (v 29), .int 0, .int 0, .int 0, .int 0])), ((v 0), .inl (k 0, 4, .inl (fun _ => 0))), ((v 2), .inl (k 0, 4, .inl (fun _ => 0)))] := S
  refine lv_aload_n hx hb d_La_law_109 rfl (lv_at hl 1 rfl) ?_
  refine lv_aload_n hx hb d_La_law_110 rfl (lv_at hl 3 rfl) ?_
  refine lv_iload_n hx hb d_La_law_111 rfl (lv_at hl 0 rfl) ?_
  refine lv_iconst (v := 1) hx hb d_La_law_112 (by decide) ?_
  refine lv_iadd hx hb d_La_law_113 ?_
  rw [show (0 : Int32) + 1 = 1 from by decide]
  refine va_sld hx hb hX hbl hbA S.2.2 (i := 1) (by unfold vp_in; decide) d_La_law_114 ?_
  refine r_backi (wi := [(mo, .inr (8, [.int 0, .ref (v 0), .ref (v 1), .ref (v 2), .int (-2), .ref (v 3), .ref (v 4), .ref (v 5), .ref (v 6), .int 0, .long 0, .int (-2), .int 0, .ref (v 7), .ref (v 8), .ref (v 9), .ref (v 10), .ref (v 11), .int 0, .ref (v 12), .int 0, .int 0, .int 0, .int 0, .int 0, .int 0, .int 0, .ref (v 13), .int 0, .int 0, .int 0, .int 0, .ref (v 14), .ref (v 15), .int 0, .ref (v 16), .ref (v 17), .ref (v 18), .ref (v 19), .ref (v 20), .int 0, .ref (v 21), .ref (v 22), .ref (v 23), .ref (v 24), .ref (v 25), .ref (v 26), .ref (v 27), .int 0, .int 0, .int 0, .int 0, .int 0, .int 0, .int 0, .ref (v 28), .ref (v 29), .int 0, .int 0, .int 0, .int 0])), ((v 0), .inl (k 0, 4, .inl (fun _ => 0))), ((v 2), .inl (k 0, 4, .inl (fun _ => 0)))]) (wr := [((u 30), .inr (6, [.ref (u 0), .ref (u 31), .ref (u 32), .ref (u 33), .ref (u 34), .int 0, .int 0, .int 0, .int 0, .int 0, .long 0, .int (-2)])), ((u 59), .inr (3, [.ref (u 60), .ref (u 61), .ref (u 63), .ref (u 65), .ref (u 67), .ref (u 69), .int 0, .int 0]))]) S hA [2, 3, 4] [0, 1] rfl rfl (by decide) (by decide) (va_runV (As := [.int (xs (Int32.toNatClampNeg 1))]) (rest := [.int r4]) ⟨hx, hb, C.2.2.1, C.2.2.2.1, C.2.2.2.2.1⟩ (f_Mo_function l G k mo _ v (xs (Int32.toNatClampNeg 1))) (k_virt (n := 1) C wc_Mo_function rfl rfl wz_Mo wm_La_17 wn_Mo_function ws_Mo_function (by decide +kernel) ⟨(Nat.le_of_ble_eq_true rfl), (Nat.le_of_ble_eq_true rfl)⟩) (pr_nowV K S [2, 3, 4] (by decide) rfl 2 rfl rfl) rfl rfl hl.1 rfl (lv_room (Nat.le_of_ble_eq_true rfl)) d_La_law_115 ⟨(Nat.le_of_ble_eq_true rfl), (Nat.le_of_ble_eq_true rfl)⟩) (fun r8 u6 H locs hw7 S => ?_)
  have S : Sw G A s.heap _ _ [((u 30), .inr (6, [.ref (u 0), .ref (u 31), .ref (u 32), .ref (u 33), .ref (u 34), .int 0, .int 0, .int 0, .int 0, .int 0, .long 0, .int (-2)])), ((u 59), .inr (3, [.ref (u 60), .ref (u 61), .ref (u 63), .ref (u 65), .ref (u 67), .ref (u 69), .int 0, .int 0]))] := S
  refine lv_icmp_eq (tgt := 471) hx hb d_La_law_118 (by decide) (fun _ => ?_) (fun hq => absurd (hw3.trans hw7.symm) hq)
  exact law_end C K hX hbl hA hA2 (Nat.le_of_ble_eq_true rfl) (Nat.le_of_ble_eq_true rfl) S ls hl
set_option maxRecDepth 100000 in
set_option maxHeartbeats 4000000 in
theorem law_c1 {p : Program} {l : Launch} {e : Env} {s : State} {m : MethodId} {below : List Frame} {meth : Method} {c : Code} {G : va_G} {k : Nat → ClassId} {b : Nat} {xs : Nat → Int32} {A : Nat → Prop} (C : Cx p s m #[Value.ref b] meth c code "PotentialBenchLaw" 4 ret meth.name) (K : Kn G k s) (hX : va_X b 6 xs s s.heap) (hbl : b < s.heap.size) (hA : ∀ q, s.heap.size ≤ q → A q) (hA2 : ∀ q, A q → s.heap.size ≤ q) {H : Heap} {locs : List Loc} {pb mo : Nat} {u v : Nat → Nat} (S : Sw G A s.heap H locs [(pb, .inr (0, [.ref (u 0), .ref (u 29), .ref (u 30), .ref (u 35), .ref (u 43), .ref (u 59), .int 0, .int (-2), .int 0])), ((u 0), .inl (k 3, 4, .inr (.inr (.inr (.inr (va_up (va_up (va_up (va_up (fun _ => none) 0 (some (u 1))) 1 (some (u 8))) 2 (some (u 15))) 3 (some (u 22)))))))), ((u 1), .inr (4, [.ref (u 2), .ref (u 3), .ref (u 4), .ref (u 5), .ref (u 6), .ref (u 7), .int 0, .int 0, .int 0])), ((u 30), .inr (6, [.ref (u 0), .ref (u 31), .ref (u 32), .ref (u 33), .ref (u 34), .int 0, .int 0, .int 0, .int 0, .int 0, .long 0, .int (-2)])), ((u 59), .inr (3, [.ref (u 60), .ref (u 61), .ref (u 63), .ref (u 65), .ref (u 67), .ref (u 69), .int 0, .int 0])), (mo, .inr (8, [.int 0, .ref (v 0), .ref (v 1), .ref (v 2), .int (-2), .ref (v 3), .ref (v 4), .ref (v 5), .ref (v 6), .int 0, .long 0, .int (-2), .int 0, .ref (v 7), .ref (v 8), .ref (v 9), .ref (v 10), .ref (v 11), .int 0, .ref (v 12), .int 0, .int 0, .int 0, .int 0, .int 0, .int 0, .int 0, .ref (v 13), .int 0, .int 0, .int 0, .int 0, .ref (v 14), .ref (v 15), .int 0, .ref (v 16), .ref (v 17), .ref (v 18), .ref (v 19), .ref (v 20), .int 0, .ref (v 21), .ref (v 22), .ref (v 23), .ref (v 24), .ref (v 25), .ref (v 26), .ref (v 27), .int 0, .int 0, .int 0, .int 0, .int 0, .int 0, .int 0, .ref (v 28), .ref (v 29), .int 0, .int 0, .int 0, .int 0])), ((v 0), .inl (k 0, 4, .inl (fun _ => 0))), ((v 2), .inl (k 0, 4, .inl (fun _ => 0)))]) (ls : Array Slot) (hl : lv_has ls 4 [(3, .int 0), (2, .ref mo), (1, .ref pb), (0, .ref b)]) : W p l e room_1 s m #[Value.ref b] below meth c H locs 541 404588 (lw_Z below #[Value.ref b] s) (F0 m 123 ls []) := by
  have hx := C.1
  have hb := C.2.1
  have hbA : ¬ A b := fun h => absurd (hA2 b h) (Nat.not_le.mpr hbl)
  refine lv_aload_n hx hb d_La_law_123 rfl (lv_at hl 2 rfl) ?_
  refine lv_aload_n hx hb d_La_law_124 rfl (lv_at hl 3 rfl) ?_
  refine lv_iload_n hx hb d_La_law_125 rfl (lv_at hl 0 rfl) ?_
  refine lv_iconst (v := 1) hx hb d_La_law_126 (by decide) ?_
  refine lv_iadd hx hb d_La_law_127 ?_
  rw [show (0 : Int32) + 1 = 1 from by decide]
  refine va_sld hx hb hX hbl hbA S.2.2 (i := 1) (by unfold vp_in; decide) d_La_law_128 ?_
  refine lv_aload_n hx hb d_La_law_129 rfl (lv_at hl 3 rfl) ?_
  refine lv_iload_n hx hb d_La_law_130 rfl (lv_at hl 0 rfl) ?_
  refine lv_iconst (v := 2) hx hb d_La_law_131 (by decide) ?_
  refine lv_iadd hx hb d_La_law_132 ?_
  rw [show (0 : Int32) + 2 = 2 from by decide]
  refine va_sld hx hb hX hbl hbA S.2.2 (i := 2) (by unfold vp_in; decide) d_La_law_133 ?_
  refine r_backi (wi := [(pb, .inr (0, [.ref (u 0), .ref (u 29), .ref (u 30), .ref (u 35), .ref (u 43), .ref (u 59), .int 0, .int (-2), .int 0]))]) (wr := [((u 0), .inl (k 3, 4, .inr (.inr (.inr (.inr (va_up (va_up (va_up (va_up (fun _ => none) 0 (some (u 1))) 1 (some (u 8))) 2 (some (u 15))) 3 (some (u 22)))))))), ((u 1), .inr (4, [.ref (u 2), .ref (u 3), .ref (u 4), .ref (u 5), .ref (u 6), .ref (u 7), .int 0, .int 0, .int 0])), ((u 30), .inr (6, [.ref (u 0), .ref (u 31), .ref (u 32), .ref (u 33), .ref (u 34), .int 0, .int 0, .int 0, .int 0, .int 0, .long 0, .int (-2)])), ((u 59), .inr (3, [.ref (u 60), .ref (u 61), .ref (u 63), .ref (u 65), .ref (u 67), .ref (u 69), .int 0, .int 0])), (mo, .inr (8, [.int 0, .ref (v 0), .ref (v 1), .ref (v 2), .int (-2), .ref (v 3), .ref (v 4), .ref (v 5), .ref (v 6), .int 0, .long 0, .int (-2), .int 0, .ref (v 7), .ref (v 8), .ref (v 9), .ref (v 10), .ref (v 11), .int 0, .ref (v 12), .int 0, .int 0, .int 0, .int 0, .int 0, .int 0, .int 0, .ref (v 13), .int 0, .int 0, .int 0, .int 0, .ref (v 14), .ref (v 15), .int 0, .ref (v 16), .ref (v 17), .ref (v 18), .ref (v 19), .ref (v 20), .int 0, .ref (v 21), .ref (v 22), .ref (v 23), .ref (v 24), .ref (v 25), .ref (v 26), .ref (v 27), .int 0, .int 0, .int 0, .int 0, .int 0, .int 0, .int 0, .ref (v 28), .ref (v 29), .int 0, .int 0, .int 0, .int 0])), ((v 0), .inl (k 0, 4, .inl (fun _ => 0))), ((v 2), .inl (k 0, 4, .inl (fun _ => 0)))]) S hA [0] [1, 2, 3, 4, 5, 6, 7] rfl rfl (by decide) (by decide) (va_runV (As := [.int (xs (Int32.toNatClampNeg 1)), .int (xs (Int32.toNatClampNeg 2))]) (rest := []) ⟨hx, hb, C.2.2.1, C.2.2.2.1, C.2.2.2.2.1⟩ (f_PB_word l G k pb _ (u 0) (u 29) (u 30) (u 35) (u 43) (u 59) (xs (Int32.toNatClampNeg 1)) (xs (Int32.toNatClampNeg 2))) (k_virt (n := 2) C wc_PB_word rfl rfl wz_PB wm_La_18 wn_PB_word ws_PB_word (by decide +kernel) ⟨(Nat.le_of_ble_eq_true rfl), (Nat.le_of_ble_eq_true rfl)⟩) (pr_nowV K S [0] (by decide) rfl 0 rfl rfl) rfl rfl hl.1 rfl (lv_room (Nat.le_of_ble_eq_true rfl)) d_La_law_134 ⟨(Nat.le_of_ble_eq_true rfl), (Nat.le_of_ble_eq_true rfl)⟩) (fun r5 u3 H locs hw4 S => ?_)
  have S : Sw G A s.heap _ _ [((u 0), .inl (k 3, 4, .inr (.inr (.inr (.inr (va_up (va_up (va_up (va_up (fun _ => none) 0 (some (u 1))) 1 (some (u 8))) 2 (some (u 15))) 3 (some (u 22)))))))), ((u 1), .inr (4, [.ref (u 2), .ref (u 3), .ref (u 4), .ref (u 5), .ref (u 6), .ref (u 7), .int 0, .int 0, .int 0])), ((u 30), .inr (6, [.ref (u 0), .ref (u 31), .ref (u 32), .ref (u 33), .ref (u 34), .int 0, .int 0, .int 0, .int 0, .int 0, .long 0, .int (-2)])), ((u 59), .inr (3, [.ref (u 60), .ref (u 61), .ref (u 63), .ref (u 65), .ref (u 67), .ref (u 69), .int 0, .int 0])), (mo, .inr (8, [.int 0, .ref (v 0), .ref (v 1), .ref (v 2), .int (-2), .ref (v 3), .ref (v 4), .ref (v 5), .ref (v 6), .int 0, .long 0, .int (-2), .int 0, .ref (v 7), .ref (v 8), .ref (v 9), .ref (v 10), .ref (v 11), .int 0, .ref (v 12), .int 0, .int 0, .int 0, .int 0, .int 0, .int 0, .int 0, .ref (v 13), .int 0, .int 0, .int 0, .int 0, .ref (v 14), .ref (v 15), .int 0, .ref (v 16), .ref (v 17), .ref (v 18), .ref (v 19), .ref (v 20), .int 0, .ref (v 21), .ref (v 22), .ref (v 23), .ref (v 24), .ref (v 25), .ref (v 26), .ref (v 27), .int 0, .int 0, .int 0, .int 0, .int 0, .int 0, .int 0, .ref (v 28), .ref (v 29), .int 0, .int 0, .int 0, .int 0])), ((v 0), .inl (k 0, 4, .inl (fun _ => 0))), ((v 2), .inl (k 0, 4, .inl (fun _ => 0)))] := S
  have hw4 : r5 = (-1) := hw4
  subst hw4
  refine lv_aload_n hx hb d_La_law_137 rfl (lv_at hl 1 rfl) ?_
  refine lv_aload_n hx hb d_La_law_138 rfl (lv_at hl 3 rfl) ?_
  refine lv_iload_n hx hb d_La_law_139 rfl (lv_at hl 0 rfl) ?_
  refine lv_iconst (v := 1) hx hb d_La_law_140 (by decide) ?_
  refine lv_iadd hx hb d_La_law_141 ?_
  rw [show (0 : Int32) + 1 = 1 from by decide]
  refine va_sld hx hb hX hbl hbA S.2.2 (i := 1) (by unfold vp_in; decide) d_La_law_142 ?_
  refine lv_aload_n hx hb d_La_law_143 rfl (lv_at hl 3 rfl) ?_
  refine lv_iload_n hx hb d_La_law_144 rfl (lv_at hl 0 rfl) ?_
  refine lv_iconst (v := 2) hx hb d_La_law_145 (by decide) ?_
  refine lv_iadd hx hb d_La_law_146 ?_
  rw [show (0 : Int32) + 2 = 2 from by decide]
  refine va_sld hx hb hX hbl hbA S.2.2 (i := 2) (by unfold vp_in; decide) d_La_law_147 ?_
  refine r_backi (wi := [(mo, .inr (8, [.int 0, .ref (v 0), .ref (v 1), .ref (v 2), .int (-2), .ref (v 3), .ref (v 4), .ref (v 5), .ref (v 6), .int 0, .long 0, .int (-2), .int 0, .ref (v 7), .ref (v 8), .ref (v 9), .ref (v 10), .ref (v 11), .int 0, .ref (v 12), .int 0, .int 0, .int 0, .int 0, .int 0, .int 0, .int 0, .ref (v 13), .int 0, .int 0, .int 0, .int 0, .ref (v 14), .ref (v 15), .int 0, .ref (v 16), .ref (v 17), .ref (v 18), .ref (v 19), .ref (v 20), .int 0, .ref (v 21), .ref (v 22), .ref (v 23), .ref (v 24), .ref (v 25), .ref (v 26), .ref (v 27), .int 0, .int 0, .int 0, .int 0, .int 0, .int 0, .int 0, .ref (v 28), .ref (v 29), .int 0, .int 0, .int 0, .int 0]))]) (wr := [((u 0), .inl (k 3, 4, .inr (.inr (.inr (.inr (va_up (va_up (va_up (va_up (fun _ => none) 0 (some (u 1))) 1 (some (u 8))) 2 (some (u 15))) 3 (some (u 22)))))))), ((u 1), .inr (4, [.ref (u 2), .ref (u 3), .ref (u 4), .ref (u 5), .ref (u 6), .ref (u 7), .int 0, .int 0, .int 0])), ((u 30), .inr (6, [.ref (u 0), .ref (u 31), .ref (u 32), .ref (u 33), .ref (u 34), .int 0, .int 0, .int 0, .int 0, .int 0, .long 0, .int (-2)])), ((u 59), .inr (3, [.ref (u 60), .ref (u 61), .ref (u 63), .ref (u 65), .ref (u 67), .ref (u 69), .int 0, .int 0])), ((v 0), .inl (k 0, 4, .inl (fun _ => 0))), ((v 2), .inl (k 0, 4, .inl (fun _ => 0)))]) S hA [4] [0, 1, 2, 3, 5, 6] rfl rfl (by decide) (by decide) (va_runV (As := [.int (xs (Int32.toNatClampNeg 1)), .int (xs (Int32.toNatClampNeg 2))]) (rest := [.int (-1)]) ⟨hx, hb, C.2.2.1, C.2.2.2.1, C.2.2.2.2.1⟩ (f_Mo_word l G k mo _ v (xs (Int32.toNatClampNeg 1)) (xs (Int32.toNatClampNeg 2))) (k_virt (n := 2) C wc_Mo_word rfl rfl wz_Mo wm_La_22 wn_Mo_word ws_Mo_word (by decide +kernel) ⟨(Nat.le_of_ble_eq_true rfl), (Nat.le_of_ble_eq_true rfl)⟩) (pr_nowV K S [4] (by decide) rfl 4 rfl rfl) rfl rfl hl.1 rfl (lv_room (Nat.le_of_ble_eq_true rfl)) d_La_law_148 ⟨(Nat.le_of_ble_eq_true rfl), (Nat.le_of_ble_eq_true rfl)⟩) (fun r10 u8 H locs hw9 S => ?_)
  have S : Sw G A s.heap _ _ [((u 0), .inl (k 3, 4, .inr (.inr (.inr (.inr (va_up (va_up (va_up (va_up (fun _ => none) 0 (some (u 1))) 1 (some (u 8))) 2 (some (u 15))) 3 (some (u 22)))))))), ((u 1), .inr (4, [.ref (u 2), .ref (u 3), .ref (u 4), .ref (u 5), .ref (u 6), .ref (u 7), .int 0, .int 0, .int 0])), ((u 30), .inr (6, [.ref (u 0), .ref (u 31), .ref (u 32), .ref (u 33), .ref (u 34), .int 0, .int 0, .int 0, .int 0, .int 0, .long 0, .int (-2)])), ((u 59), .inr (3, [.ref (u 60), .ref (u 61), .ref (u 63), .ref (u 65), .ref (u 67), .ref (u 69), .int 0, .int 0])), ((v 0), .inl (k 0, 4, .inl (fun _ => 0))), ((v 2), .inl (k 0, 4, .inl (fun _ => 0)))] := S
  have hw9 : r10 = (-1) := hw9
  subst hw9
  refine lv_icmp_eq (tgt := 471) hx hb d_La_law_151 (by decide) (fun _ => ?_) (fun hq => absurd (by decide) hq)
  exact law_end C K hX hbl hA hA2 (Nat.le_of_ble_eq_true rfl) (Nat.le_of_ble_eq_true rfl) S ls hl
set_option maxRecDepth 100000 in
set_option maxHeartbeats 4000000 in
theorem law_c2 {p : Program} {l : Launch} {e : Env} {s : State} {m : MethodId} {below : List Frame} {meth : Method} {c : Code} {G : va_G} {k : Nat → ClassId} {b : Nat} {xs : Nat → Int32} {A : Nat → Prop} (C : Cx p s m #[Value.ref b] meth c code "PotentialBenchLaw" 4 ret meth.name) (K : Kn G k s) (hX : va_X b 6 xs s s.heap) (hbl : b < s.heap.size) (hA : ∀ q, s.heap.size ≤ q → A q) (hA2 : ∀ q, A q → s.heap.size ≤ q) {H : Heap} {locs : List Loc} {pb mo : Nat} {u v : Nat → Nat} (S : Sw G A s.heap H locs [(pb, .inr (0, [.ref (u 0), .ref (u 29), .ref (u 30), .ref (u 35), .ref (u 43), .ref (u 59), .int 0, .int (-2), .int 0])), ((u 0), .inl (k 3, 4, .inr (.inr (.inr (.inr (va_up (va_up (va_up (va_up (fun _ => none) 0 (some (u 1))) 1 (some (u 8))) 2 (some (u 15))) 3 (some (u 22)))))))), ((u 1), .inr (4, [.ref (u 2), .ref (u 3), .ref (u 4), .ref (u 5), .ref (u 6), .ref (u 7), .int 0, .int 0, .int 0])), ((u 30), .inr (6, [.ref (u 0), .ref (u 31), .ref (u 32), .ref (u 33), .ref (u 34), .int 0, .int 0, .int 0, .int 0, .int 0, .long 0, .int (-2)])), ((u 59), .inr (3, [.ref (u 60), .ref (u 61), .ref (u 63), .ref (u 65), .ref (u 67), .ref (u 69), .int 0, .int 0])), (mo, .inr (8, [.int 0, .ref (v 0), .ref (v 1), .ref (v 2), .int (-2), .ref (v 3), .ref (v 4), .ref (v 5), .ref (v 6), .int 0, .long 0, .int (-2), .int 0, .ref (v 7), .ref (v 8), .ref (v 9), .ref (v 10), .ref (v 11), .int 0, .ref (v 12), .int 0, .int 0, .int 0, .int 0, .int 0, .int 0, .int 0, .ref (v 13), .int 0, .int 0, .int 0, .int 0, .ref (v 14), .ref (v 15), .int 0, .ref (v 16), .ref (v 17), .ref (v 18), .ref (v 19), .ref (v 20), .int 0, .ref (v 21), .ref (v 22), .ref (v 23), .ref (v 24), .ref (v 25), .ref (v 26), .ref (v 27), .int 0, .int 0, .int 0, .int 0, .int 0, .int 0, .int 0, .ref (v 28), .ref (v 29), .int 0, .int 0, .int 0, .int 0])), ((v 0), .inl (k 0, 4, .inl (fun _ => 0))), ((v 2), .inl (k 0, 4, .inl (fun _ => 0)))]) (ls : Array Slot) (hl : lv_has ls 4 [(3, .int 0), (2, .ref mo), (1, .ref pb), (0, .ref b)]) : W p l e room_1 s m #[Value.ref b] below meth c H locs 541 404588 (lw_Z below #[Value.ref b] s) (F0 m 156 ls []) := by
  have hx := C.1
  have hb := C.2.1
  have hbA : ¬ A b := fun h => absurd (hA2 b h) (Nat.not_le.mpr hbl)
  refine lv_aload_n hx hb d_La_law_156 rfl (lv_at hl 2 rfl) ?_
  refine lv_aload_n hx hb d_La_law_157 rfl (lv_at hl 3 rfl) ?_
  refine lv_iload_n hx hb d_La_law_158 rfl (lv_at hl 0 rfl) ?_
  refine lv_iconst (v := 1) hx hb d_La_law_159 (by decide) ?_
  refine lv_iadd hx hb d_La_law_160 ?_
  rw [show (0 : Int32) + 1 = 1 from by decide]
  refine va_sld hx hb hX hbl hbA S.2.2 (i := 1) (by unfold vp_in; decide) d_La_law_161 ?_
  refine lv_aload_n hx hb d_La_law_162 rfl (lv_at hl 3 rfl) ?_
  refine lv_iload_n hx hb d_La_law_163 rfl (lv_at hl 0 rfl) ?_
  refine lv_iconst (v := 2) hx hb d_La_law_164 (by decide) ?_
  refine lv_iadd hx hb d_La_law_165 ?_
  rw [show (0 : Int32) + 2 = 2 from by decide]
  refine va_sld hx hb hX hbl hbA S.2.2 (i := 2) (by unfold vp_in; decide) d_La_law_166 ?_
  refine r_backi (wi := [(pb, .inr (0, [.ref (u 0), .ref (u 29), .ref (u 30), .ref (u 35), .ref (u 43), .ref (u 59), .int 0, .int (-2), .int 0]))]) (wr := [((u 0), .inl (k 3, 4, .inr (.inr (.inr (.inr (va_up (va_up (va_up (va_up (fun _ => none) 0 (some (u 1))) 1 (some (u 8))) 2 (some (u 15))) 3 (some (u 22)))))))), ((u 1), .inr (4, [.ref (u 2), .ref (u 3), .ref (u 4), .ref (u 5), .ref (u 6), .ref (u 7), .int 0, .int 0, .int 0])), ((u 30), .inr (6, [.ref (u 0), .ref (u 31), .ref (u 32), .ref (u 33), .ref (u 34), .int 0, .int 0, .int 0, .int 0, .int 0, .long 0, .int (-2)])), ((u 59), .inr (3, [.ref (u 60), .ref (u 61), .ref (u 63), .ref (u 65), .ref (u 67), .ref (u 69), .int 0, .int 0])), (mo, .inr (8, [.int 0, .ref (v 0), .ref (v 1), .ref (v 2), .int (-2), .ref (v 3), .ref (v 4), .ref (v 5), .ref (v 6), .int 0, .long 0, .int (-2), .int 0, .ref (v 7), .ref (v 8), .ref (v 9), .ref (v 10), .ref (v 11), .int 0, .ref (v 12), .int 0, .int 0, .int 0, .int 0, .int 0, .int 0, .int 0, .ref (v 13), .int 0, .int 0, .int 0, .int 0, .ref (v 14), .ref (v 15), .int 0, .ref (v 16), .ref (v 17), .ref (v 18), .ref (v 19), .ref (v 20), .int 0, .ref (v 21), .ref (v 22), .ref (v 23), .ref (v 24), .ref (v 25), .ref (v 26), .ref (v 27), .int 0, .int 0, .int 0, .int 0, .int 0, .int 0, .int 0, .ref (v 28), .ref (v 29), .int 0, .int 0, .int 0, .int 0])), ((v 0), .inl (k 0, 4, .inl (fun _ => 0))), ((v 2), .inl (k 0, 4, .inl (fun _ => 0)))]) S hA [0] [1, 2, 3, 4, 5, 6, 7] rfl rfl (by decide) (by decide) (va_runV (As := [.int (xs (Int32.toNatClampNeg 1)), .int (xs (Int32.toNatClampNeg 2))]) (rest := []) ⟨hx, hb, C.2.2.1, C.2.2.2.1, C.2.2.2.2.1⟩ (f_PB_cut l G k pb _ (u 0) (u 29) (u 30) (u 35) (u 43) (u 59) (xs (Int32.toNatClampNeg 1)) (xs (Int32.toNatClampNeg 2))) (k_virt (n := 2) C wc_PB_cut rfl rfl wz_PB wm_La_23 wn_PB_cut ws_PB_cut (by decide +kernel) ⟨(Nat.le_of_ble_eq_true rfl), (Nat.le_of_ble_eq_true rfl)⟩) (pr_nowV K S [0] (by decide) rfl 0 rfl rfl) rfl rfl hl.1 rfl (lv_room (Nat.le_of_ble_eq_true rfl)) d_La_law_167 ⟨(Nat.le_of_ble_eq_true rfl), (Nat.le_of_ble_eq_true rfl)⟩) (fun r5 u3 H locs hw4 S => ?_)
  have S : Sw G A s.heap _ _ [((u 0), .inl (k 3, 4, .inr (.inr (.inr (.inr (va_up (va_up (va_up (va_up (fun _ => none) 0 (some (u 1))) 1 (some (u 8))) 2 (some (u 15))) 3 (some (u 22)))))))), ((u 1), .inr (4, [.ref (u 2), .ref (u 3), .ref (u 4), .ref (u 5), .ref (u 6), .ref (u 7), .int 0, .int 0, .int 0])), ((u 30), .inr (6, [.ref (u 0), .ref (u 31), .ref (u 32), .ref (u 33), .ref (u 34), .int 0, .int 0, .int 0, .int 0, .int 0, .long 0, .int (-2)])), ((u 59), .inr (3, [.ref (u 60), .ref (u 61), .ref (u 63), .ref (u 65), .ref (u 67), .ref (u 69), .int 0, .int 0])), (mo, .inr (8, [.int 0, .ref (v 0), .ref (v 1), .ref (v 2), .int (-2), .ref (v 3), .ref (v 4), .ref (v 5), .ref (v 6), .int 0, .long 0, .int (-2), .int 0, .ref (v 7), .ref (v 8), .ref (v 9), .ref (v 10), .ref (v 11), .int 0, .ref (v 12), .int 0, .int 0, .int 0, .int 0, .int 0, .int 0, .int 0, .ref (v 13), .int 0, .int 0, .int 0, .int 0, .ref (v 14), .ref (v 15), .int 0, .ref (v 16), .ref (v 17), .ref (v 18), .ref (v 19), .ref (v 20), .int 0, .ref (v 21), .ref (v 22), .ref (v 23), .ref (v 24), .ref (v 25), .ref (v 26), .ref (v 27), .int 0, .int 0, .int 0, .int 0, .int 0, .int 0, .int 0, .ref (v 28), .ref (v 29), .int 0, .int 0, .int 0, .int 0])), ((v 0), .inl (k 0, 4, .inl (fun _ => 0))), ((v 2), .inl (k 0, 4, .inl (fun _ => 0)))] := S
  have hw4 : r5 = 0 := hw4
  subst hw4
  refine lv_aload_n hx hb d_La_law_170 rfl (lv_at hl 1 rfl) ?_
  refine lv_aload_n hx hb d_La_law_171 rfl (lv_at hl 3 rfl) ?_
  refine lv_iload_n hx hb d_La_law_172 rfl (lv_at hl 0 rfl) ?_
  refine lv_iconst (v := 1) hx hb d_La_law_173 (by decide) ?_
  refine lv_iadd hx hb d_La_law_174 ?_
  rw [show (0 : Int32) + 1 = 1 from by decide]
  refine va_sld hx hb hX hbl hbA S.2.2 (i := 1) (by unfold vp_in; decide) d_La_law_175 ?_
  refine lv_aload_n hx hb d_La_law_176 rfl (lv_at hl 3 rfl) ?_
  refine lv_iload_n hx hb d_La_law_177 rfl (lv_at hl 0 rfl) ?_
  refine lv_iconst (v := 2) hx hb d_La_law_178 (by decide) ?_
  refine lv_iadd hx hb d_La_law_179 ?_
  rw [show (0 : Int32) + 2 = 2 from by decide]
  refine va_sld hx hb hX hbl hbA S.2.2 (i := 2) (by unfold vp_in; decide) d_La_law_180 ?_
  refine r_backi (wi := [(mo, .inr (8, [.int 0, .ref (v 0), .ref (v 1), .ref (v 2), .int (-2), .ref (v 3), .ref (v 4), .ref (v 5), .ref (v 6), .int 0, .long 0, .int (-2), .int 0, .ref (v 7), .ref (v 8), .ref (v 9), .ref (v 10), .ref (v 11), .int 0, .ref (v 12), .int 0, .int 0, .int 0, .int 0, .int 0, .int 0, .int 0, .ref (v 13), .int 0, .int 0, .int 0, .int 0, .ref (v 14), .ref (v 15), .int 0, .ref (v 16), .ref (v 17), .ref (v 18), .ref (v 19), .ref (v 20), .int 0, .ref (v 21), .ref (v 22), .ref (v 23), .ref (v 24), .ref (v 25), .ref (v 26), .ref (v 27), .int 0, .int 0, .int 0, .int 0, .int 0, .int 0, .int 0, .ref (v 28), .ref (v 29), .int 0, .int 0, .int 0, .int 0]))]) (wr := [((u 0), .inl (k 3, 4, .inr (.inr (.inr (.inr (va_up (va_up (va_up (va_up (fun _ => none) 0 (some (u 1))) 1 (some (u 8))) 2 (some (u 15))) 3 (some (u 22)))))))), ((u 1), .inr (4, [.ref (u 2), .ref (u 3), .ref (u 4), .ref (u 5), .ref (u 6), .ref (u 7), .int 0, .int 0, .int 0])), ((u 30), .inr (6, [.ref (u 0), .ref (u 31), .ref (u 32), .ref (u 33), .ref (u 34), .int 0, .int 0, .int 0, .int 0, .int 0, .long 0, .int (-2)])), ((u 59), .inr (3, [.ref (u 60), .ref (u 61), .ref (u 63), .ref (u 65), .ref (u 67), .ref (u 69), .int 0, .int 0])), ((v 0), .inl (k 0, 4, .inl (fun _ => 0))), ((v 2), .inl (k 0, 4, .inl (fun _ => 0)))]) S hA [4] [0, 1, 2, 3, 5, 6] rfl rfl (by decide) (by decide) (va_runV (As := [.int (xs (Int32.toNatClampNeg 1)), .int (xs (Int32.toNatClampNeg 2))]) (rest := [.int 0]) ⟨hx, hb, C.2.2.1, C.2.2.2.1, C.2.2.2.2.1⟩ (f_Mo_cut l G k mo _ v (xs (Int32.toNatClampNeg 1)) (xs (Int32.toNatClampNeg 2))) (k_virt (n := 2) C wc_Mo_cut rfl rfl wz_Mo wm_La_27 wn_Mo_cut ws_Mo_cut (by decide +kernel) ⟨(Nat.le_of_ble_eq_true rfl), (Nat.le_of_ble_eq_true rfl)⟩) (pr_nowV K S [4] (by decide) rfl 4 rfl rfl) rfl rfl hl.1 rfl (lv_room (Nat.le_of_ble_eq_true rfl)) d_La_law_181 ⟨(Nat.le_of_ble_eq_true rfl), (Nat.le_of_ble_eq_true rfl)⟩) (fun r10 u8 H locs hw9 S => ?_)
  have S : Sw G A s.heap _ _ [((u 0), .inl (k 3, 4, .inr (.inr (.inr (.inr (va_up (va_up (va_up (va_up (fun _ => none) 0 (some (u 1))) 1 (some (u 8))) 2 (some (u 15))) 3 (some (u 22)))))))), ((u 1), .inr (4, [.ref (u 2), .ref (u 3), .ref (u 4), .ref (u 5), .ref (u 6), .ref (u 7), .int 0, .int 0, .int 0])), ((u 30), .inr (6, [.ref (u 0), .ref (u 31), .ref (u 32), .ref (u 33), .ref (u 34), .int 0, .int 0, .int 0, .int 0, .int 0, .long 0, .int (-2)])), ((u 59), .inr (3, [.ref (u 60), .ref (u 61), .ref (u 63), .ref (u 65), .ref (u 67), .ref (u 69), .int 0, .int 0])), ((v 0), .inl (k 0, 4, .inl (fun _ => 0))), ((v 2), .inl (k 0, 4, .inl (fun _ => 0)))] := S
  have hw9 : r10 = 0 := hw9
  subst hw9
  refine lv_icmp_eq (tgt := 471) hx hb d_La_law_184 (by decide) (fun _ => ?_) (fun hq => absurd (by decide) hq)
  exact law_end C K hX hbl hA hA2 (Nat.le_of_ble_eq_true rfl) (Nat.le_of_ble_eq_true rfl) S ls hl
set_option maxRecDepth 100000 in
set_option maxHeartbeats 4000000 in
theorem law_c3 {p : Program} {l : Launch} {e : Env} {s : State} {m : MethodId} {below : List Frame} {meth : Method} {c : Code} {G : va_G} {k : Nat → ClassId} {b : Nat} {xs : Nat → Int32} {A : Nat → Prop} (C : Cx p s m #[Value.ref b] meth c code "PotentialBenchLaw" 4 ret meth.name) (K : Kn G k s) (hX : va_X b 6 xs s s.heap) (hbl : b < s.heap.size) (hA : ∀ q, s.heap.size ≤ q → A q) (hA2 : ∀ q, A q → s.heap.size ≤ q) {H : Heap} {locs : List Loc} {pb mo : Nat} {u v : Nat → Nat} (S : Sw G A s.heap H locs [(pb, .inr (0, [.ref (u 0), .ref (u 29), .ref (u 30), .ref (u 35), .ref (u 43), .ref (u 59), .int 0, .int (-2), .int 0])), ((u 0), .inl (k 3, 4, .inr (.inr (.inr (.inr (va_up (va_up (va_up (va_up (fun _ => none) 0 (some (u 1))) 1 (some (u 8))) 2 (some (u 15))) 3 (some (u 22)))))))), ((u 1), .inr (4, [.ref (u 2), .ref (u 3), .ref (u 4), .ref (u 5), .ref (u 6), .ref (u 7), .int 0, .int 0, .int 0])), ((u 30), .inr (6, [.ref (u 0), .ref (u 31), .ref (u 32), .ref (u 33), .ref (u 34), .int 0, .int 0, .int 0, .int 0, .int 0, .long 0, .int (-2)])), ((u 59), .inr (3, [.ref (u 60), .ref (u 61), .ref (u 63), .ref (u 65), .ref (u 67), .ref (u 69), .int 0, .int 0])), (mo, .inr (8, [.int 0, .ref (v 0), .ref (v 1), .ref (v 2), .int (-2), .ref (v 3), .ref (v 4), .ref (v 5), .ref (v 6), .int 0, .long 0, .int (-2), .int 0, .ref (v 7), .ref (v 8), .ref (v 9), .ref (v 10), .ref (v 11), .int 0, .ref (v 12), .int 0, .int 0, .int 0, .int 0, .int 0, .int 0, .int 0, .ref (v 13), .int 0, .int 0, .int 0, .int 0, .ref (v 14), .ref (v 15), .int 0, .ref (v 16), .ref (v 17), .ref (v 18), .ref (v 19), .ref (v 20), .int 0, .ref (v 21), .ref (v 22), .ref (v 23), .ref (v 24), .ref (v 25), .ref (v 26), .ref (v 27), .int 0, .int 0, .int 0, .int 0, .int 0, .int 0, .int 0, .ref (v 28), .ref (v 29), .int 0, .int 0, .int 0, .int 0])), ((v 0), .inl (k 0, 4, .inl (fun _ => 0))), ((v 2), .inl (k 0, 4, .inl (fun _ => 0)))]) (ls : Array Slot) (hl : lv_has ls 4 [(3, .int 0), (2, .ref mo), (1, .ref pb), (0, .ref b)]) : W p l e room_1 s m #[Value.ref b] below meth c H locs 541 404588 (lw_Z below #[Value.ref b] s) (F0 m 189 ls []) := by
  have hx := C.1
  have hb := C.2.1
  have hbA : ¬ A b := fun h => absurd (hA2 b h) (Nat.not_le.mpr hbl)
  refine lv_aload_n hx hb d_La_law_189 rfl (lv_at hl 2 rfl) ?_
  refine r_backi (wi := [(pb, .inr (0, [.ref (u 0), .ref (u 29), .ref (u 30), .ref (u 35), .ref (u 43), .ref (u 59), .int 0, .int (-2), .int 0]))]) (wr := [((u 0), .inl (k 3, 4, .inr (.inr (.inr (.inr (va_up (va_up (va_up (va_up (fun _ => none) 0 (some (u 1))) 1 (some (u 8))) 2 (some (u 15))) 3 (some (u 22)))))))), ((u 1), .inr (4, [.ref (u 2), .ref (u 3), .ref (u 4), .ref (u 5), .ref (u 6), .ref (u 7), .int 0, .int 0, .int 0])), ((u 30), .inr (6, [.ref (u 0), .ref (u 31), .ref (u 32), .ref (u 33), .ref (u 34), .int 0, .int 0, .int 0, .int 0, .int 0, .long 0, .int (-2)])), ((u 59), .inr (3, [.ref (u 60), .ref (u 61), .ref (u 63), .ref (u 65), .ref (u 67), .ref (u 69), .int 0, .int 0])), (mo, .inr (8, [.int 0, .ref (v 0), .ref (v 1), .ref (v 2), .int (-2), .ref (v 3), .ref (v 4), .ref (v 5), .ref (v 6), .int 0, .long 0, .int (-2), .int 0, .ref (v 7), .ref (v 8), .ref (v 9), .ref (v 10), .ref (v 11), .int 0, .ref (v 12), .int 0, .int 0, .int 0, .int 0, .int 0, .int 0, .int 0, .ref (v 13), .int 0, .int 0, .int 0, .int 0, .ref (v 14), .ref (v 15), .int 0, .ref (v 16), .ref (v 17), .ref (v 18), .ref (v 19), .ref (v 20), .int 0, .ref (v 21), .ref (v 22), .ref (v 23), .ref (v 24), .ref (v 25), .ref (v 26), .ref (v 27), .int 0, .int 0, .int 0, .int 0, .int 0, .int 0, .int 0, .ref (v 28), .ref (v 29), .int 0, .int 0, .int 0, .int 0])), ((v 0), .inl (k 0, 4, .inl (fun _ => 0))), ((v 2), .inl (k 0, 4, .inl (fun _ => 0)))]) S hA [0] [1, 2, 3, 4, 5, 6, 7] rfl rfl (by decide) (by decide) (va_runV (As := []) (rest := []) ⟨hx, hb, C.2.2.1, C.2.2.2.1, C.2.2.2.2.1⟩ (f_PB_look l G k pb _ (u 0) (u 29) (u 30) (u 35) (u 43) (u 59)) (k_virt (n := 0) C wc_PB_look rfl rfl wz_PB wm_La_28 wn_PB_look ws_PB_look (by decide +kernel) ⟨(Nat.le_of_ble_eq_true rfl), (Nat.le_of_ble_eq_true rfl)⟩) (pr_nowV K S [0] (by decide) rfl 0 rfl rfl) rfl rfl hl.1 rfl (lv_room (Nat.le_of_ble_eq_true rfl)) d_La_law_190 ⟨(Nat.le_of_ble_eq_true rfl), (Nat.le_of_ble_eq_true rfl)⟩) (fun r3 u1 H locs hw2 S => ?_)
  have S : Sw G A s.heap _ _ [((u 0), .inl (k 3, 4, .inr (.inr (.inr (.inr (va_up (va_up (va_up (va_up (fun _ => none) 0 (some (u 1))) 1 (some (u 8))) 2 (some (u 15))) 3 (some (u 22)))))))), ((u 1), .inr (4, [.ref (u 2), .ref (u 3), .ref (u 4), .ref (u 5), .ref (u 6), .ref (u 7), .int 0, .int 0, .int 0])), ((u 30), .inr (6, [.ref (u 0), .ref (u 31), .ref (u 32), .ref (u 33), .ref (u 34), .int 0, .int 0, .int 0, .int 0, .int 0, .long 0, .int (-2)])), ((u 59), .inr (3, [.ref (u 60), .ref (u 61), .ref (u 63), .ref (u 65), .ref (u 67), .ref (u 69), .int 0, .int 0])), (mo, .inr (8, [.int 0, .ref (v 0), .ref (v 1), .ref (v 2), .int (-2), .ref (v 3), .ref (v 4), .ref (v 5), .ref (v 6), .int 0, .long 0, .int (-2), .int 0, .ref (v 7), .ref (v 8), .ref (v 9), .ref (v 10), .ref (v 11), .int 0, .ref (v 12), .int 0, .int 0, .int 0, .int 0, .int 0, .int 0, .int 0, .ref (v 13), .int 0, .int 0, .int 0, .int 0, .ref (v 14), .ref (v 15), .int 0, .ref (v 16), .ref (v 17), .ref (v 18), .ref (v 19), .ref (v 20), .int 0, .ref (v 21), .ref (v 22), .ref (v 23), .ref (v 24), .ref (v 25), .ref (v 26), .ref (v 27), .int 0, .int 0, .int 0, .int 0, .int 0, .int 0, .int 0, .ref (v 28), .ref (v 29), .int 0, .int 0, .int 0, .int 0])), ((v 0), .inl (k 0, 4, .inl (fun _ => 0))), ((v 2), .inl (k 0, 4, .inl (fun _ => 0)))] := S
  have hw2 : r3 = 0 := hw2
  subst hw2
  refine lv_aload_n hx hb d_La_law_193 rfl (lv_at hl 1 rfl) ?_
  refine r_backi (wi := [(mo, .inr (8, [.int 0, .ref (v 0), .ref (v 1), .ref (v 2), .int (-2), .ref (v 3), .ref (v 4), .ref (v 5), .ref (v 6), .int 0, .long 0, .int (-2), .int 0, .ref (v 7), .ref (v 8), .ref (v 9), .ref (v 10), .ref (v 11), .int 0, .ref (v 12), .int 0, .int 0, .int 0, .int 0, .int 0, .int 0, .int 0, .ref (v 13), .int 0, .int 0, .int 0, .int 0, .ref (v 14), .ref (v 15), .int 0, .ref (v 16), .ref (v 17), .ref (v 18), .ref (v 19), .ref (v 20), .int 0, .ref (v 21), .ref (v 22), .ref (v 23), .ref (v 24), .ref (v 25), .ref (v 26), .ref (v 27), .int 0, .int 0, .int 0, .int 0, .int 0, .int 0, .int 0, .ref (v 28), .ref (v 29), .int 0, .int 0, .int 0, .int 0]))]) (wr := [((u 0), .inl (k 3, 4, .inr (.inr (.inr (.inr (va_up (va_up (va_up (va_up (fun _ => none) 0 (some (u 1))) 1 (some (u 8))) 2 (some (u 15))) 3 (some (u 22)))))))), ((u 1), .inr (4, [.ref (u 2), .ref (u 3), .ref (u 4), .ref (u 5), .ref (u 6), .ref (u 7), .int 0, .int 0, .int 0])), ((u 30), .inr (6, [.ref (u 0), .ref (u 31), .ref (u 32), .ref (u 33), .ref (u 34), .int 0, .int 0, .int 0, .int 0, .int 0, .long 0, .int (-2)])), ((u 59), .inr (3, [.ref (u 60), .ref (u 61), .ref (u 63), .ref (u 65), .ref (u 67), .ref (u 69), .int 0, .int 0])), ((v 0), .inl (k 0, 4, .inl (fun _ => 0))), ((v 2), .inl (k 0, 4, .inl (fun _ => 0)))]) S hA [4] [0, 1, 2, 3, 5, 6] rfl rfl (by decide) (by decide) (va_runV (As := []) (rest := [.int 0]) ⟨hx, hb, C.2.2.1, C.2.2.2.1, C.2.2.2.2.1⟩ (f_Mo_look l G k mo _ v) (k_virt (n := 0) C wc_Mo_look rfl rfl wz_Mo wm_La_32 wn_Mo_look ws_Mo_look (by decide +kernel) ⟨(Nat.le_of_ble_eq_true rfl), (Nat.le_of_ble_eq_true rfl)⟩) (pr_nowV K S [4] (by decide) rfl 4 rfl rfl) rfl rfl hl.1 rfl (lv_room (Nat.le_of_ble_eq_true rfl)) d_La_law_194 ⟨(Nat.le_of_ble_eq_true rfl), (Nat.le_of_ble_eq_true rfl)⟩) (fun r6 u4 H locs hw5 S => ?_)
  have S : Sw G A s.heap _ _ [((u 0), .inl (k 3, 4, .inr (.inr (.inr (.inr (va_up (va_up (va_up (va_up (fun _ => none) 0 (some (u 1))) 1 (some (u 8))) 2 (some (u 15))) 3 (some (u 22)))))))), ((u 1), .inr (4, [.ref (u 2), .ref (u 3), .ref (u 4), .ref (u 5), .ref (u 6), .ref (u 7), .int 0, .int 0, .int 0])), ((u 30), .inr (6, [.ref (u 0), .ref (u 31), .ref (u 32), .ref (u 33), .ref (u 34), .int 0, .int 0, .int 0, .int 0, .int 0, .long 0, .int (-2)])), ((u 59), .inr (3, [.ref (u 60), .ref (u 61), .ref (u 63), .ref (u 65), .ref (u 67), .ref (u 69), .int 0, .int 0])), ((v 0), .inl (k 0, 4, .inl (fun _ => 0))), ((v 2), .inl (k 0, 4, .inl (fun _ => 0)))] := S
  have hw5 : r6 = 0 := hw5
  subst hw5
  refine lv_icmp_eq (tgt := 471) hx hb d_La_law_197 (by decide) (fun _ => ?_) (fun hq => absurd (by decide) hq)
  exact law_end C K hX hbl hA hA2 (Nat.le_of_ble_eq_true rfl) (Nat.le_of_ble_eq_true rfl) S ls hl
set_option maxRecDepth 100000 in
set_option maxHeartbeats 4000000 in
theorem law_c4 {p : Program} {l : Launch} {e : Env} {s : State} {m : MethodId} {below : List Frame} {meth : Method} {c : Code} {G : va_G} {k : Nat → ClassId} {b : Nat} {xs : Nat → Int32} {A : Nat → Prop} (C : Cx p s m #[Value.ref b] meth c code "PotentialBenchLaw" 4 ret meth.name) (K : Kn G k s) (hX : va_X b 6 xs s s.heap) (hbl : b < s.heap.size) (hA : ∀ q, s.heap.size ≤ q → A q) (hA2 : ∀ q, A q → s.heap.size ≤ q) {H : Heap} {locs : List Loc} {pb mo : Nat} {u v : Nat → Nat} (S : Sw G A s.heap H locs [(pb, .inr (0, [.ref (u 0), .ref (u 29), .ref (u 30), .ref (u 35), .ref (u 43), .ref (u 59), .int 0, .int (-2), .int 0])), ((u 0), .inl (k 3, 4, .inr (.inr (.inr (.inr (va_up (va_up (va_up (va_up (fun _ => none) 0 (some (u 1))) 1 (some (u 8))) 2 (some (u 15))) 3 (some (u 22)))))))), ((u 1), .inr (4, [.ref (u 2), .ref (u 3), .ref (u 4), .ref (u 5), .ref (u 6), .ref (u 7), .int 0, .int 0, .int 0])), ((u 30), .inr (6, [.ref (u 0), .ref (u 31), .ref (u 32), .ref (u 33), .ref (u 34), .int 0, .int 0, .int 0, .int 0, .int 0, .long 0, .int (-2)])), ((u 59), .inr (3, [.ref (u 60), .ref (u 61), .ref (u 63), .ref (u 65), .ref (u 67), .ref (u 69), .int 0, .int 0])), (mo, .inr (8, [.int 0, .ref (v 0), .ref (v 1), .ref (v 2), .int (-2), .ref (v 3), .ref (v 4), .ref (v 5), .ref (v 6), .int 0, .long 0, .int (-2), .int 0, .ref (v 7), .ref (v 8), .ref (v 9), .ref (v 10), .ref (v 11), .int 0, .ref (v 12), .int 0, .int 0, .int 0, .int 0, .int 0, .int 0, .int 0, .ref (v 13), .int 0, .int 0, .int 0, .int 0, .ref (v 14), .ref (v 15), .int 0, .ref (v 16), .ref (v 17), .ref (v 18), .ref (v 19), .ref (v 20), .int 0, .ref (v 21), .ref (v 22), .ref (v 23), .ref (v 24), .ref (v 25), .ref (v 26), .ref (v 27), .int 0, .int 0, .int 0, .int 0, .int 0, .int 0, .int 0, .ref (v 28), .ref (v 29), .int 0, .int 0, .int 0, .int 0])), ((v 0), .inl (k 0, 4, .inl (fun _ => 0))), ((v 2), .inl (k 0, 4, .inl (fun _ => 0)))]) (ls : Array Slot) (hl : lv_has ls 4 [(3, .int 0), (2, .ref mo), (1, .ref pb), (0, .ref b)]) : W p l e room_1 s m #[Value.ref b] below meth c H locs 541 404588 (lw_Z below #[Value.ref b] s) (F0 m 202 ls []) := by
  have hx := C.1
  have hb := C.2.1
  have hbA : ¬ A b := fun h => absurd (hA2 b h) (Nat.not_le.mpr hbl)
  refine lv_aload_n hx hb d_La_law_202 rfl (lv_at hl 2 rfl) ?_
  refine r_backi (wi := [(pb, .inr (0, [.ref (u 0), .ref (u 29), .ref (u 30), .ref (u 35), .ref (u 43), .ref (u 59), .int 0, .int (-2), .int 0]))]) (wr := [((u 0), .inl (k 3, 4, .inr (.inr (.inr (.inr (va_up (va_up (va_up (va_up (fun _ => none) 0 (some (u 1))) 1 (some (u 8))) 2 (some (u 15))) 3 (some (u 22)))))))), ((u 1), .inr (4, [.ref (u 2), .ref (u 3), .ref (u 4), .ref (u 5), .ref (u 6), .ref (u 7), .int 0, .int 0, .int 0])), ((u 30), .inr (6, [.ref (u 0), .ref (u 31), .ref (u 32), .ref (u 33), .ref (u 34), .int 0, .int 0, .int 0, .int 0, .int 0, .long 0, .int (-2)])), ((u 59), .inr (3, [.ref (u 60), .ref (u 61), .ref (u 63), .ref (u 65), .ref (u 67), .ref (u 69), .int 0, .int 0])), (mo, .inr (8, [.int 0, .ref (v 0), .ref (v 1), .ref (v 2), .int (-2), .ref (v 3), .ref (v 4), .ref (v 5), .ref (v 6), .int 0, .long 0, .int (-2), .int 0, .ref (v 7), .ref (v 8), .ref (v 9), .ref (v 10), .ref (v 11), .int 0, .ref (v 12), .int 0, .int 0, .int 0, .int 0, .int 0, .int 0, .int 0, .ref (v 13), .int 0, .int 0, .int 0, .int 0, .ref (v 14), .ref (v 15), .int 0, .ref (v 16), .ref (v 17), .ref (v 18), .ref (v 19), .ref (v 20), .int 0, .ref (v 21), .ref (v 22), .ref (v 23), .ref (v 24), .ref (v 25), .ref (v 26), .ref (v 27), .int 0, .int 0, .int 0, .int 0, .int 0, .int 0, .int 0, .ref (v 28), .ref (v 29), .int 0, .int 0, .int 0, .int 0])), ((v 0), .inl (k 0, 4, .inl (fun _ => 0))), ((v 2), .inl (k 0, 4, .inl (fun _ => 0)))]) S hA [0] [1, 2, 3, 4, 5, 6, 7] rfl rfl (by decide) (by decide) (va_runV (As := []) (rest := []) ⟨hx, hb, C.2.2.1, C.2.2.2.1, C.2.2.2.2.1⟩ (f_PB_place l G k pb _ (u 0) (u 29) (u 30) (u 35) (u 43) (u 59)) (k_virt (n := 0) C wc_PB_place rfl rfl wz_PB wm_La_33 wn_PB_place ws_PB_place (by decide +kernel) ⟨(Nat.le_of_ble_eq_true rfl), (Nat.le_of_ble_eq_true rfl)⟩) (pr_nowV K S [0] (by decide) rfl 0 rfl rfl) rfl rfl hl.1 rfl (lv_room (Nat.le_of_ble_eq_true rfl)) d_La_law_203 ⟨(Nat.le_of_ble_eq_true rfl), (Nat.le_of_ble_eq_true rfl)⟩) (fun r3 u1 H locs hw2 S => ?_)
  have S : Sw G A s.heap _ _ [((u 0), .inl (k 3, 4, .inr (.inr (.inr (.inr (va_up (va_up (va_up (va_up (fun _ => none) 0 (some (u 1))) 1 (some (u 8))) 2 (some (u 15))) 3 (some (u 22)))))))), ((u 1), .inr (4, [.ref (u 2), .ref (u 3), .ref (u 4), .ref (u 5), .ref (u 6), .ref (u 7), .int 0, .int 0, .int 0])), ((u 30), .inr (6, [.ref (u 0), .ref (u 31), .ref (u 32), .ref (u 33), .ref (u 34), .int 0, .int 0, .int 0, .int 0, .int 0, .long 0, .int (-2)])), ((u 59), .inr (3, [.ref (u 60), .ref (u 61), .ref (u 63), .ref (u 65), .ref (u 67), .ref (u 69), .int 0, .int 0])), (mo, .inr (8, [.int 0, .ref (v 0), .ref (v 1), .ref (v 2), .int (-2), .ref (v 3), .ref (v 4), .ref (v 5), .ref (v 6), .int 0, .long 0, .int (-2), .int 0, .ref (v 7), .ref (v 8), .ref (v 9), .ref (v 10), .ref (v 11), .int 0, .ref (v 12), .int 0, .int 0, .int 0, .int 0, .int 0, .int 0, .int 0, .ref (v 13), .int 0, .int 0, .int 0, .int 0, .ref (v 14), .ref (v 15), .int 0, .ref (v 16), .ref (v 17), .ref (v 18), .ref (v 19), .ref (v 20), .int 0, .ref (v 21), .ref (v 22), .ref (v 23), .ref (v 24), .ref (v 25), .ref (v 26), .ref (v 27), .int 0, .int 0, .int 0, .int 0, .int 0, .int 0, .int 0, .ref (v 28), .ref (v 29), .int 0, .int 0, .int 0, .int 0])), ((v 0), .inl (k 0, 4, .inl (fun _ => 0))), ((v 2), .inl (k 0, 4, .inl (fun _ => 0)))] := S
  have hw2 : r3 = (-2) := hw2
  subst hw2
  refine lv_aload_n hx hb d_La_law_206 rfl (lv_at hl 1 rfl) ?_
  refine r_backi (wi := [(mo, .inr (8, [.int 0, .ref (v 0), .ref (v 1), .ref (v 2), .int (-2), .ref (v 3), .ref (v 4), .ref (v 5), .ref (v 6), .int 0, .long 0, .int (-2), .int 0, .ref (v 7), .ref (v 8), .ref (v 9), .ref (v 10), .ref (v 11), .int 0, .ref (v 12), .int 0, .int 0, .int 0, .int 0, .int 0, .int 0, .int 0, .ref (v 13), .int 0, .int 0, .int 0, .int 0, .ref (v 14), .ref (v 15), .int 0, .ref (v 16), .ref (v 17), .ref (v 18), .ref (v 19), .ref (v 20), .int 0, .ref (v 21), .ref (v 22), .ref (v 23), .ref (v 24), .ref (v 25), .ref (v 26), .ref (v 27), .int 0, .int 0, .int 0, .int 0, .int 0, .int 0, .int 0, .ref (v 28), .ref (v 29), .int 0, .int 0, .int 0, .int 0]))]) (wr := [((u 0), .inl (k 3, 4, .inr (.inr (.inr (.inr (va_up (va_up (va_up (va_up (fun _ => none) 0 (some (u 1))) 1 (some (u 8))) 2 (some (u 15))) 3 (some (u 22)))))))), ((u 1), .inr (4, [.ref (u 2), .ref (u 3), .ref (u 4), .ref (u 5), .ref (u 6), .ref (u 7), .int 0, .int 0, .int 0])), ((u 30), .inr (6, [.ref (u 0), .ref (u 31), .ref (u 32), .ref (u 33), .ref (u 34), .int 0, .int 0, .int 0, .int 0, .int 0, .long 0, .int (-2)])), ((u 59), .inr (3, [.ref (u 60), .ref (u 61), .ref (u 63), .ref (u 65), .ref (u 67), .ref (u 69), .int 0, .int 0])), ((v 0), .inl (k 0, 4, .inl (fun _ => 0))), ((v 2), .inl (k 0, 4, .inl (fun _ => 0)))]) S hA [4] [0, 1, 2, 3, 5, 6] rfl rfl (by decide) (by decide) (va_runV (As := []) (rest := [.int (-2)]) ⟨hx, hb, C.2.2.1, C.2.2.2.1, C.2.2.2.2.1⟩ (f_Mo_place l G k mo _ v) (k_virt (n := 0) C wc_Mo_place rfl rfl wz_Mo wm_La_36 wn_Mo_place ws_Mo_place (by decide +kernel) ⟨(Nat.le_of_ble_eq_true rfl), (Nat.le_of_ble_eq_true rfl)⟩) (pr_nowV K S [4] (by decide) rfl 4 rfl rfl) rfl rfl hl.1 rfl (lv_room (Nat.le_of_ble_eq_true rfl)) d_La_law_207 ⟨(Nat.le_of_ble_eq_true rfl), (Nat.le_of_ble_eq_true rfl)⟩) (fun r6 u4 H locs hw5 S => ?_)
  have S : Sw G A s.heap _ _ [((u 0), .inl (k 3, 4, .inr (.inr (.inr (.inr (va_up (va_up (va_up (va_up (fun _ => none) 0 (some (u 1))) 1 (some (u 8))) 2 (some (u 15))) 3 (some (u 22)))))))), ((u 1), .inr (4, [.ref (u 2), .ref (u 3), .ref (u 4), .ref (u 5), .ref (u 6), .ref (u 7), .int 0, .int 0, .int 0])), ((u 30), .inr (6, [.ref (u 0), .ref (u 31), .ref (u 32), .ref (u 33), .ref (u 34), .int 0, .int 0, .int 0, .int 0, .int 0, .long 0, .int (-2)])), ((u 59), .inr (3, [.ref (u 60), .ref (u 61), .ref (u 63), .ref (u 65), .ref (u 67), .ref (u 69), .int 0, .int 0])), ((v 0), .inl (k 0, 4, .inl (fun _ => 0))), ((v 2), .inl (k 0, 4, .inl (fun _ => 0)))] := S
  have hw5 : r6 = (-2) := hw5
  subst hw5
  refine lv_icmp_eq (tgt := 471) hx hb d_La_law_210 (by decide) (fun _ => ?_) (fun hq => absurd (by decide) hq)
  exact law_end C K hX hbl hA hA2 (Nat.le_of_ble_eq_true rfl) (Nat.le_of_ble_eq_true rfl) S ls hl
set_option maxRecDepth 100000 in
set_option maxHeartbeats 4000000 in
theorem law_c5 {p : Program} {l : Launch} {e : Env} {s : State} {m : MethodId} {below : List Frame} {meth : Method} {c : Code} {G : va_G} {k : Nat → ClassId} {b : Nat} {xs : Nat → Int32} {A : Nat → Prop} (C : Cx p s m #[Value.ref b] meth c code "PotentialBenchLaw" 4 ret meth.name) (K : Kn G k s) (hX : va_X b 6 xs s s.heap) (hbl : b < s.heap.size) (hA : ∀ q, s.heap.size ≤ q → A q) (hA2 : ∀ q, A q → s.heap.size ≤ q) {H : Heap} {locs : List Loc} {pb mo : Nat} {u v : Nat → Nat} (S : Sw G A s.heap H locs [(pb, .inr (0, [.ref (u 0), .ref (u 29), .ref (u 30), .ref (u 35), .ref (u 43), .ref (u 59), .int 0, .int (-2), .int 0])), ((u 0), .inl (k 3, 4, .inr (.inr (.inr (.inr (va_up (va_up (va_up (va_up (fun _ => none) 0 (some (u 1))) 1 (some (u 8))) 2 (some (u 15))) 3 (some (u 22)))))))), ((u 1), .inr (4, [.ref (u 2), .ref (u 3), .ref (u 4), .ref (u 5), .ref (u 6), .ref (u 7), .int 0, .int 0, .int 0])), ((u 30), .inr (6, [.ref (u 0), .ref (u 31), .ref (u 32), .ref (u 33), .ref (u 34), .int 0, .int 0, .int 0, .int 0, .int 0, .long 0, .int (-2)])), ((u 59), .inr (3, [.ref (u 60), .ref (u 61), .ref (u 63), .ref (u 65), .ref (u 67), .ref (u 69), .int 0, .int 0])), (mo, .inr (8, [.int 0, .ref (v 0), .ref (v 1), .ref (v 2), .int (-2), .ref (v 3), .ref (v 4), .ref (v 5), .ref (v 6), .int 0, .long 0, .int (-2), .int 0, .ref (v 7), .ref (v 8), .ref (v 9), .ref (v 10), .ref (v 11), .int 0, .ref (v 12), .int 0, .int 0, .int 0, .int 0, .int 0, .int 0, .int 0, .ref (v 13), .int 0, .int 0, .int 0, .int 0, .ref (v 14), .ref (v 15), .int 0, .ref (v 16), .ref (v 17), .ref (v 18), .ref (v 19), .ref (v 20), .int 0, .ref (v 21), .ref (v 22), .ref (v 23), .ref (v 24), .ref (v 25), .ref (v 26), .ref (v 27), .int 0, .int 0, .int 0, .int 0, .int 0, .int 0, .int 0, .ref (v 28), .ref (v 29), .int 0, .int 0, .int 0, .int 0])), ((v 0), .inl (k 0, 4, .inl (fun _ => 0))), ((v 2), .inl (k 0, 4, .inl (fun _ => 0)))]) (ls : Array Slot) (hl : lv_has ls 4 [(3, .int 0), (2, .ref mo), (1, .ref pb), (0, .ref b)]) : W p l e room_1 s m #[Value.ref b] below meth c H locs 541 404588 (lw_Z below #[Value.ref b] s) (F0 m 215 ls []) := by
  have hx := C.1
  have hb := C.2.1
  have hbA : ¬ A b := fun h => absurd (hA2 b h) (Nat.not_le.mpr hbl)
  refine lv_aload_n hx hb d_La_law_215 rfl (lv_at hl 2 rfl) ?_
  refine lv_aload_n hx hb d_La_law_216 rfl (lv_at hl 3 rfl) ?_
  refine lv_iload_n hx hb d_La_law_217 rfl (lv_at hl 0 rfl) ?_
  refine lv_iconst (v := 1) hx hb d_La_law_218 (by decide) ?_
  refine lv_iadd hx hb d_La_law_219 ?_
  rw [show (0 : Int32) + 1 = 1 from by decide]
  refine va_sld hx hb hX hbl hbA S.2.2 (i := 1) (by unfold vp_in; decide) d_La_law_220 ?_
  refine lv_aload_n hx hb d_La_law_221 rfl (lv_at hl 3 rfl) ?_
  refine lv_iload_n hx hb d_La_law_222 rfl (lv_at hl 0 rfl) ?_
  refine lv_iconst (v := 2) hx hb d_La_law_223 (by decide) ?_
  refine lv_iadd hx hb d_La_law_224 ?_
  rw [show (0 : Int32) + 2 = 2 from by decide]
  refine va_sld hx hb hX hbl hbA S.2.2 (i := 2) (by unfold vp_in; decide) d_La_law_225 ?_
  refine lv_aload_n hx hb d_La_law_226 rfl (lv_at hl 3 rfl) ?_
  refine lv_iload_n hx hb d_La_law_227 rfl (lv_at hl 0 rfl) ?_
  refine lv_iconst (v := 3) hx hb d_La_law_228 (by decide) ?_
  refine lv_iadd hx hb d_La_law_229 ?_
  rw [show (0 : Int32) + 3 = 3 from by decide]
  refine va_sld hx hb hX hbl hbA S.2.2 (i := 3) (by unfold vp_in; decide) d_La_law_230 ?_
  refine lv_aload_n hx hb d_La_law_231 rfl (lv_at hl 3 rfl) ?_
  refine lv_iload_n hx hb d_La_law_232 rfl (lv_at hl 0 rfl) ?_
  refine lv_iconst (v := 4) hx hb d_La_law_233 (by decide) ?_
  refine lv_iadd hx hb d_La_law_234 ?_
  rw [show (0 : Int32) + 4 = 4 from by decide]
  refine va_sld hx hb hX hbl hbA S.2.2 (i := 4) (by unfold vp_in; decide) d_La_law_235 ?_
  refine r_backi (wi := [(pb, .inr (0, [.ref (u 0), .ref (u 29), .ref (u 30), .ref (u 35), .ref (u 43), .ref (u 59), .int 0, .int (-2), .int 0]))]) (wr := [((u 0), .inl (k 3, 4, .inr (.inr (.inr (.inr (va_up (va_up (va_up (va_up (fun _ => none) 0 (some (u 1))) 1 (some (u 8))) 2 (some (u 15))) 3 (some (u 22)))))))), ((u 1), .inr (4, [.ref (u 2), .ref (u 3), .ref (u 4), .ref (u 5), .ref (u 6), .ref (u 7), .int 0, .int 0, .int 0])), ((u 30), .inr (6, [.ref (u 0), .ref (u 31), .ref (u 32), .ref (u 33), .ref (u 34), .int 0, .int 0, .int 0, .int 0, .int 0, .long 0, .int (-2)])), ((u 59), .inr (3, [.ref (u 60), .ref (u 61), .ref (u 63), .ref (u 65), .ref (u 67), .ref (u 69), .int 0, .int 0])), (mo, .inr (8, [.int 0, .ref (v 0), .ref (v 1), .ref (v 2), .int (-2), .ref (v 3), .ref (v 4), .ref (v 5), .ref (v 6), .int 0, .long 0, .int (-2), .int 0, .ref (v 7), .ref (v 8), .ref (v 9), .ref (v 10), .ref (v 11), .int 0, .ref (v 12), .int 0, .int 0, .int 0, .int 0, .int 0, .int 0, .int 0, .ref (v 13), .int 0, .int 0, .int 0, .int 0, .ref (v 14), .ref (v 15), .int 0, .ref (v 16), .ref (v 17), .ref (v 18), .ref (v 19), .ref (v 20), .int 0, .ref (v 21), .ref (v 22), .ref (v 23), .ref (v 24), .ref (v 25), .ref (v 26), .ref (v 27), .int 0, .int 0, .int 0, .int 0, .int 0, .int 0, .int 0, .ref (v 28), .ref (v 29), .int 0, .int 0, .int 0, .int 0])), ((v 0), .inl (k 0, 4, .inl (fun _ => 0))), ((v 2), .inl (k 0, 4, .inl (fun _ => 0)))]) S hA [0] [1, 2, 3, 4, 5, 6, 7] rfl rfl (by decide) (by decide) (va_runV (As := [.int (xs (Int32.toNatClampNeg 1)), .int (xs (Int32.toNatClampNeg 2)), .int (xs (Int32.toNatClampNeg 3)), .int (xs (Int32.toNatClampNeg 4))]) (rest := []) ⟨hx, hb, C.2.2.1, C.2.2.2.1, C.2.2.2.2.1⟩ (f_PB_run l G k pb _ (u 0) (u 29) (u 30) (u 35) (u 43) (u 59) (xs (Int32.toNatClampNeg 1)) (xs (Int32.toNatClampNeg 2)) (xs (Int32.toNatClampNeg 3)) (xs (Int32.toNatClampNeg 4))) (k_virt (n := 4) C wc_PB_run rfl rfl wz_PB wm_La_37 wn_PB_run ws_PB_run (by decide +kernel) ⟨(Nat.le_of_ble_eq_true rfl), (Nat.le_of_ble_eq_true rfl)⟩) (pr_nowV K S [0] (by decide) rfl 0 rfl rfl) rfl rfl hl.1 rfl (lv_room (Nat.le_of_ble_eq_true rfl)) d_La_law_236 ⟨(Nat.le_of_ble_eq_true rfl), (Nat.le_of_ble_eq_true rfl)⟩) (fun r7 u5 H locs hw6 S => ?_)
  have S : Sw G A s.heap _ _ [((u 0), .inl (k 3, 4, .inr (.inr (.inr (.inr (va_up (va_up (va_up (va_up (fun _ => none) 0 (some (u 1))) 1 (some (u 8))) 2 (some (u 15))) 3 (some (u 22)))))))), ((u 1), .inr (4, [.ref (u 2), .ref (u 3), .ref (u 4), .ref (u 5), .ref (u 6), .ref (u 7), .int 0, .int 0, .int 0])), ((u 30), .inr (6, [.ref (u 0), .ref (u 31), .ref (u 32), .ref (u 33), .ref (u 34), .int 0, .int 0, .int 0, .int 0, .int 0, .long 0, .int (-2)])), ((u 59), .inr (3, [.ref (u 60), .ref (u 61), .ref (u 63), .ref (u 65), .ref (u 67), .ref (u 69), .int 0, .int 0])), (mo, .inr (8, [.int 0, .ref (v 0), .ref (v 1), .ref (v 2), .int (-2), .ref (v 3), .ref (v 4), .ref (v 5), .ref (v 6), .int 0, .long 0, .int (-2), .int 0, .ref (v 7), .ref (v 8), .ref (v 9), .ref (v 10), .ref (v 11), .int 0, .ref (v 12), .int 0, .int 0, .int 0, .int 0, .int 0, .int 0, .int 0, .ref (v 13), .int 0, .int 0, .int 0, .int 0, .ref (v 14), .ref (v 15), .int 0, .ref (v 16), .ref (v 17), .ref (v 18), .ref (v 19), .ref (v 20), .int 0, .ref (v 21), .ref (v 22), .ref (v 23), .ref (v 24), .ref (v 25), .ref (v 26), .ref (v 27), .int 0, .int 0, .int 0, .int 0, .int 0, .int 0, .int 0, .ref (v 28), .ref (v 29), .int 0, .int 0, .int 0, .int 0])), ((v 0), .inl (k 0, 4, .inl (fun _ => 0))), ((v 2), .inl (k 0, 4, .inl (fun _ => 0)))] := S
  have hw6 : r7 = (-1) := hw6
  subst hw6
  refine lv_aload_n hx hb d_La_law_239 rfl (lv_at hl 1 rfl) ?_
  refine lv_aload_n hx hb d_La_law_240 rfl (lv_at hl 3 rfl) ?_
  refine lv_iload_n hx hb d_La_law_241 rfl (lv_at hl 0 rfl) ?_
  refine lv_iconst (v := 1) hx hb d_La_law_242 (by decide) ?_
  refine lv_iadd hx hb d_La_law_243 ?_
  rw [show (0 : Int32) + 1 = 1 from by decide]
  refine va_sld hx hb hX hbl hbA S.2.2 (i := 1) (by unfold vp_in; decide) d_La_law_244 ?_
  refine lv_aload_n hx hb d_La_law_245 rfl (lv_at hl 3 rfl) ?_
  refine lv_iload_n hx hb d_La_law_246 rfl (lv_at hl 0 rfl) ?_
  refine lv_iconst (v := 2) hx hb d_La_law_247 (by decide) ?_
  refine lv_iadd hx hb d_La_law_248 ?_
  rw [show (0 : Int32) + 2 = 2 from by decide]
  refine va_sld hx hb hX hbl hbA S.2.2 (i := 2) (by unfold vp_in; decide) d_La_law_249 ?_
  refine lv_aload_n hx hb d_La_law_250 rfl (lv_at hl 3 rfl) ?_
  refine lv_iload_n hx hb d_La_law_251 rfl (lv_at hl 0 rfl) ?_
  refine lv_iconst (v := 3) hx hb d_La_law_252 (by decide) ?_
  refine lv_iadd hx hb d_La_law_253 ?_
  rw [show (0 : Int32) + 3 = 3 from by decide]
  refine va_sld hx hb hX hbl hbA S.2.2 (i := 3) (by unfold vp_in; decide) d_La_law_254 ?_
  refine lv_aload_n hx hb d_La_law_255 rfl (lv_at hl 3 rfl) ?_
  refine lv_iload_n hx hb d_La_law_256 rfl (lv_at hl 0 rfl) ?_
  refine lv_iconst (v := 4) hx hb d_La_law_257 (by decide) ?_
  refine lv_iadd hx hb d_La_law_258 ?_
  rw [show (0 : Int32) + 4 = 4 from by decide]
  refine va_sld hx hb hX hbl hbA S.2.2 (i := 4) (by unfold vp_in; decide) d_La_law_259 ?_
  refine r_backi (wi := [(mo, .inr (8, [.int 0, .ref (v 0), .ref (v 1), .ref (v 2), .int (-2), .ref (v 3), .ref (v 4), .ref (v 5), .ref (v 6), .int 0, .long 0, .int (-2), .int 0, .ref (v 7), .ref (v 8), .ref (v 9), .ref (v 10), .ref (v 11), .int 0, .ref (v 12), .int 0, .int 0, .int 0, .int 0, .int 0, .int 0, .int 0, .ref (v 13), .int 0, .int 0, .int 0, .int 0, .ref (v 14), .ref (v 15), .int 0, .ref (v 16), .ref (v 17), .ref (v 18), .ref (v 19), .ref (v 20), .int 0, .ref (v 21), .ref (v 22), .ref (v 23), .ref (v 24), .ref (v 25), .ref (v 26), .ref (v 27), .int 0, .int 0, .int 0, .int 0, .int 0, .int 0, .int 0, .ref (v 28), .ref (v 29), .int 0, .int 0, .int 0, .int 0]))]) (wr := [((u 0), .inl (k 3, 4, .inr (.inr (.inr (.inr (va_up (va_up (va_up (va_up (fun _ => none) 0 (some (u 1))) 1 (some (u 8))) 2 (some (u 15))) 3 (some (u 22)))))))), ((u 1), .inr (4, [.ref (u 2), .ref (u 3), .ref (u 4), .ref (u 5), .ref (u 6), .ref (u 7), .int 0, .int 0, .int 0])), ((u 30), .inr (6, [.ref (u 0), .ref (u 31), .ref (u 32), .ref (u 33), .ref (u 34), .int 0, .int 0, .int 0, .int 0, .int 0, .long 0, .int (-2)])), ((u 59), .inr (3, [.ref (u 60), .ref (u 61), .ref (u 63), .ref (u 65), .ref (u 67), .ref (u 69), .int 0, .int 0])), ((v 0), .inl (k 0, 4, .inl (fun _ => 0))), ((v 2), .inl (k 0, 4, .inl (fun _ => 0)))]) S hA [4] [0, 1, 2, 3, 5, 6] rfl rfl (by decide) (by decide) (va_runV (As := [.int (xs (Int32.toNatClampNeg 1)), .int (xs (Int32.toNatClampNeg 2)), .int (xs (Int32.toNatClampNeg 3)), .int (xs (Int32.toNatClampNeg 4))]) (rest := [.int (-1)]) ⟨hx, hb, C.2.2.1, C.2.2.2.1, C.2.2.2.2.1⟩ (f_Mo_run l G k mo _ v (xs (Int32.toNatClampNeg 1)) (xs (Int32.toNatClampNeg 2)) (xs (Int32.toNatClampNeg 3)) (xs (Int32.toNatClampNeg 4))) (k_virt (n := 4) C wc_Mo_run rfl rfl wz_Mo wm_La_41 wn_Mo_run ws_Mo_run (by decide +kernel) ⟨(Nat.le_of_ble_eq_true rfl), (Nat.le_of_ble_eq_true rfl)⟩) (pr_nowV K S [4] (by decide) rfl 4 rfl rfl) rfl rfl hl.1 rfl (lv_room (Nat.le_of_ble_eq_true rfl)) d_La_law_260 ⟨(Nat.le_of_ble_eq_true rfl), (Nat.le_of_ble_eq_true rfl)⟩) (fun r14 u12 H locs hw13 S => ?_)
  have S : Sw G A s.heap _ _ [((u 0), .inl (k 3, 4, .inr (.inr (.inr (.inr (va_up (va_up (va_up (va_up (fun _ => none) 0 (some (u 1))) 1 (some (u 8))) 2 (some (u 15))) 3 (some (u 22)))))))), ((u 1), .inr (4, [.ref (u 2), .ref (u 3), .ref (u 4), .ref (u 5), .ref (u 6), .ref (u 7), .int 0, .int 0, .int 0])), ((u 30), .inr (6, [.ref (u 0), .ref (u 31), .ref (u 32), .ref (u 33), .ref (u 34), .int 0, .int 0, .int 0, .int 0, .int 0, .long 0, .int (-2)])), ((u 59), .inr (3, [.ref (u 60), .ref (u 61), .ref (u 63), .ref (u 65), .ref (u 67), .ref (u 69), .int 0, .int 0])), ((v 0), .inl (k 0, 4, .inl (fun _ => 0))), ((v 2), .inl (k 0, 4, .inl (fun _ => 0)))] := S
  have hw13 : r14 = (-1) := hw13
  subst hw13
  refine lv_icmp_eq (tgt := 471) hx hb d_La_law_263 (by decide) (fun _ => ?_) (fun hq => absurd (by decide) hq)
  exact law_end C K hX hbl hA hA2 (Nat.le_of_ble_eq_true rfl) (Nat.le_of_ble_eq_true rfl) S ls hl
set_option maxRecDepth 100000 in
set_option maxHeartbeats 4000000 in
theorem law_c6 {p : Program} {l : Launch} {e : Env} {s : State} {m : MethodId} {below : List Frame} {meth : Method} {c : Code} {G : va_G} {k : Nat → ClassId} {b : Nat} {xs : Nat → Int32} {A : Nat → Prop} (C : Cx p s m #[Value.ref b] meth c code "PotentialBenchLaw" 4 ret meth.name) (K : Kn G k s) (hX : va_X b 6 xs s s.heap) (hbl : b < s.heap.size) (hA : ∀ q, s.heap.size ≤ q → A q) (hA2 : ∀ q, A q → s.heap.size ≤ q) {H : Heap} {locs : List Loc} {pb mo : Nat} {u v : Nat → Nat} (S : Sw G A s.heap H locs [(pb, .inr (0, [.ref (u 0), .ref (u 29), .ref (u 30), .ref (u 35), .ref (u 43), .ref (u 59), .int 0, .int (-2), .int 0])), ((u 0), .inl (k 3, 4, .inr (.inr (.inr (.inr (va_up (va_up (va_up (va_up (fun _ => none) 0 (some (u 1))) 1 (some (u 8))) 2 (some (u 15))) 3 (some (u 22)))))))), ((u 1), .inr (4, [.ref (u 2), .ref (u 3), .ref (u 4), .ref (u 5), .ref (u 6), .ref (u 7), .int 0, .int 0, .int 0])), ((u 30), .inr (6, [.ref (u 0), .ref (u 31), .ref (u 32), .ref (u 33), .ref (u 34), .int 0, .int 0, .int 0, .int 0, .int 0, .long 0, .int (-2)])), ((u 59), .inr (3, [.ref (u 60), .ref (u 61), .ref (u 63), .ref (u 65), .ref (u 67), .ref (u 69), .int 0, .int 0])), (mo, .inr (8, [.int 0, .ref (v 0), .ref (v 1), .ref (v 2), .int (-2), .ref (v 3), .ref (v 4), .ref (v 5), .ref (v 6), .int 0, .long 0, .int (-2), .int 0, .ref (v 7), .ref (v 8), .ref (v 9), .ref (v 10), .ref (v 11), .int 0, .ref (v 12), .int 0, .int 0, .int 0, .int 0, .int 0, .int 0, .int 0, .ref (v 13), .int 0, .int 0, .int 0, .int 0, .ref (v 14), .ref (v 15), .int 0, .ref (v 16), .ref (v 17), .ref (v 18), .ref (v 19), .ref (v 20), .int 0, .ref (v 21), .ref (v 22), .ref (v 23), .ref (v 24), .ref (v 25), .ref (v 26), .ref (v 27), .int 0, .int 0, .int 0, .int 0, .int 0, .int 0, .int 0, .ref (v 28), .ref (v 29), .int 0, .int 0, .int 0, .int 0])), ((v 0), .inl (k 0, 4, .inl (fun _ => 0))), ((v 2), .inl (k 0, 4, .inl (fun _ => 0)))]) (ls : Array Slot) (hl : lv_has ls 4 [(3, .int 0), (2, .ref mo), (1, .ref pb), (0, .ref b)]) : W p l e room_1 s m #[Value.ref b] below meth c H locs 541 404588 (lw_Z below #[Value.ref b] s) (F0 m 268 ls []) := by
  have hx := C.1
  have hb := C.2.1
  have hbA : ¬ A b := fun h => absurd (hA2 b h) (Nat.not_le.mpr hbl)
  refine lv_aload_n hx hb d_La_law_268 rfl (lv_at hl 2 rfl) ?_
  refine r_backl (wi := [(pb, .inr (0, [.ref (u 0), .ref (u 29), .ref (u 30), .ref (u 35), .ref (u 43), .ref (u 59), .int 0, .int (-2), .int 0])), ((u 30), .inr (6, [.ref (u 0), .ref (u 31), .ref (u 32), .ref (u 33), .ref (u 34), .int 0, .int 0, .int 0, .int 0, .int 0, .long 0, .int (-2)]))]) (wr := [((u 0), .inl (k 3, 4, .inr (.inr (.inr (.inr (va_up (va_up (va_up (va_up (fun _ => none) 0 (some (u 1))) 1 (some (u 8))) 2 (some (u 15))) 3 (some (u 22)))))))), ((u 1), .inr (4, [.ref (u 2), .ref (u 3), .ref (u 4), .ref (u 5), .ref (u 6), .ref (u 7), .int 0, .int 0, .int 0])), ((u 59), .inr (3, [.ref (u 60), .ref (u 61), .ref (u 63), .ref (u 65), .ref (u 67), .ref (u 69), .int 0, .int 0])), (mo, .inr (8, [.int 0, .ref (v 0), .ref (v 1), .ref (v 2), .int (-2), .ref (v 3), .ref (v 4), .ref (v 5), .ref (v 6), .int 0, .long 0, .int (-2), .int 0, .ref (v 7), .ref (v 8), .ref (v 9), .ref (v 10), .ref (v 11), .int 0, .ref (v 12), .int 0, .int 0, .int 0, .int 0, .int 0, .int 0, .int 0, .ref (v 13), .int 0, .int 0, .int 0, .int 0, .ref (v 14), .ref (v 15), .int 0, .ref (v 16), .ref (v 17), .ref (v 18), .ref (v 19), .ref (v 20), .int 0, .ref (v 21), .ref (v 22), .ref (v 23), .ref (v 24), .ref (v 25), .ref (v 26), .ref (v 27), .int 0, .int 0, .int 0, .int 0, .int 0, .int 0, .int 0, .ref (v 28), .ref (v 29), .int 0, .int 0, .int 0, .int 0])), ((v 0), .inl (k 0, 4, .inl (fun _ => 0))), ((v 2), .inl (k 0, 4, .inl (fun _ => 0)))]) S hA [0, 3] [1, 2, 4, 5, 6, 7] rfl rfl (by decide) (by decide) (va_runV (As := []) (rest := []) ⟨hx, hb, C.2.2.1, C.2.2.2.1, C.2.2.2.2.1⟩ (f_PB_cost l G k pb _ (u 0) (u 29) (u 30) (u 35) (u 43) (u 59) (u 0) (u 31) (u 32) (u 33) (u 34)) (k_virt (n := 0) C wc_PB_cost rfl rfl wz_PB wm_La_42 wn_PB_cost ws_PB_cost (by decide +kernel) ⟨(Nat.le_of_ble_eq_true rfl), (Nat.le_of_ble_eq_true rfl)⟩) (pr_nowV K S [0, 3] (by decide) rfl 0 rfl rfl) rfl rfl hl.1 rfl (lv_room (Nat.le_of_ble_eq_true rfl)) d_La_law_269 ⟨(Nat.le_of_ble_eq_true rfl), (Nat.le_of_ble_eq_true rfl)⟩) (fun r3 u1 H locs hw2 S => ?_)
  have S : Sw G A s.heap _ _ [((u 0), .inl (k 3, 4, .inr (.inr (.inr (.inr (va_up (va_up (va_up (va_up (fun _ => none) 0 (some (u 1))) 1 (some (u 8))) 2 (some (u 15))) 3 (some (u 22)))))))), ((u 1), .inr (4, [.ref (u 2), .ref (u 3), .ref (u 4), .ref (u 5), .ref (u 6), .ref (u 7), .int 0, .int 0, .int 0])), ((u 59), .inr (3, [.ref (u 60), .ref (u 61), .ref (u 63), .ref (u 65), .ref (u 67), .ref (u 69), .int 0, .int 0])), (mo, .inr (8, [.int 0, .ref (v 0), .ref (v 1), .ref (v 2), .int (-2), .ref (v 3), .ref (v 4), .ref (v 5), .ref (v 6), .int 0, .long 0, .int (-2), .int 0, .ref (v 7), .ref (v 8), .ref (v 9), .ref (v 10), .ref (v 11), .int 0, .ref (v 12), .int 0, .int 0, .int 0, .int 0, .int 0, .int 0, .int 0, .ref (v 13), .int 0, .int 0, .int 0, .int 0, .ref (v 14), .ref (v 15), .int 0, .ref (v 16), .ref (v 17), .ref (v 18), .ref (v 19), .ref (v 20), .int 0, .ref (v 21), .ref (v 22), .ref (v 23), .ref (v 24), .ref (v 25), .ref (v 26), .ref (v 27), .int 0, .int 0, .int 0, .int 0, .int 0, .int 0, .int 0, .ref (v 28), .ref (v 29), .int 0, .int 0, .int 0, .int 0])), ((v 0), .inl (k 0, 4, .inl (fun _ => 0))), ((v 2), .inl (k 0, 4, .inl (fun _ => 0)))] := S
  have hw2 : r3 = 0 := hw2
  subst hw2
  refine lv_aload_n hx hb d_La_law_272 rfl (lv_at hl 1 rfl) ?_
  refine r_backl (wi := [(mo, .inr (8, [.int 0, .ref (v 0), .ref (v 1), .ref (v 2), .int (-2), .ref (v 3), .ref (v 4), .ref (v 5), .ref (v 6), .int 0, .long 0, .int (-2), .int 0, .ref (v 7), .ref (v 8), .ref (v 9), .ref (v 10), .ref (v 11), .int 0, .ref (v 12), .int 0, .int 0, .int 0, .int 0, .int 0, .int 0, .int 0, .ref (v 13), .int 0, .int 0, .int 0, .int 0, .ref (v 14), .ref (v 15), .int 0, .ref (v 16), .ref (v 17), .ref (v 18), .ref (v 19), .ref (v 20), .int 0, .ref (v 21), .ref (v 22), .ref (v 23), .ref (v 24), .ref (v 25), .ref (v 26), .ref (v 27), .int 0, .int 0, .int 0, .int 0, .int 0, .int 0, .int 0, .ref (v 28), .ref (v 29), .int 0, .int 0, .int 0, .int 0]))]) (wr := [((u 0), .inl (k 3, 4, .inr (.inr (.inr (.inr (va_up (va_up (va_up (va_up (fun _ => none) 0 (some (u 1))) 1 (some (u 8))) 2 (some (u 15))) 3 (some (u 22)))))))), ((u 1), .inr (4, [.ref (u 2), .ref (u 3), .ref (u 4), .ref (u 5), .ref (u 6), .ref (u 7), .int 0, .int 0, .int 0])), ((u 59), .inr (3, [.ref (u 60), .ref (u 61), .ref (u 63), .ref (u 65), .ref (u 67), .ref (u 69), .int 0, .int 0])), ((v 0), .inl (k 0, 4, .inl (fun _ => 0))), ((v 2), .inl (k 0, 4, .inl (fun _ => 0)))]) S hA [3] [0, 1, 2, 4, 5] rfl rfl (by decide) (by decide) (va_runV (As := []) (rest := [.long 0]) ⟨hx, hb, C.2.2.1, C.2.2.2.1, C.2.2.2.2.1⟩ (f_Mo_cost l G k mo _ v) (k_virt (n := 0) C wc_Mo_cost rfl rfl wz_Mo wm_La_46 wn_Mo_cost ws_Mo_cost (by decide +kernel) ⟨(Nat.le_of_ble_eq_true rfl), (Nat.le_of_ble_eq_true rfl)⟩) (pr_nowV K S [3] (by decide) rfl 3 rfl rfl) rfl rfl hl.1 rfl (lv_room (Nat.le_of_ble_eq_true rfl)) d_La_law_273 ⟨(Nat.le_of_ble_eq_true rfl), (Nat.le_of_ble_eq_true rfl)⟩) (fun r6 u4 H locs hw5 S => ?_)
  have S : Sw G A s.heap _ _ [((u 0), .inl (k 3, 4, .inr (.inr (.inr (.inr (va_up (va_up (va_up (va_up (fun _ => none) 0 (some (u 1))) 1 (some (u 8))) 2 (some (u 15))) 3 (some (u 22)))))))), ((u 1), .inr (4, [.ref (u 2), .ref (u 3), .ref (u 4), .ref (u 5), .ref (u 6), .ref (u 7), .int 0, .int 0, .int 0])), ((u 59), .inr (3, [.ref (u 60), .ref (u 61), .ref (u 63), .ref (u 65), .ref (u 67), .ref (u 69), .int 0, .int 0])), ((v 0), .inl (k 0, 4, .inl (fun _ => 0))), ((v 2), .inl (k 0, 4, .inl (fun _ => 0)))] := S
  have hw5 : r6 = 0 := hw5
  subst hw5
  refine W.lcmp hx hb d_La_law_276 ?_
  rw [show lg_cmp (0 : Int64) 0 = 0 from by decide]
  refine lv_if_eq (tgt := 471) hx hb d_La_law_277 (by decide) (fun _ => ?_) (fun hq => absurd (by decide) hq)
  exact law_end C K hX hbl hA hA2 (Nat.le_of_ble_eq_true rfl) (Nat.le_of_ble_eq_true rfl) S ls hl
set_option maxRecDepth 100000 in
set_option maxHeartbeats 4000000 in
theorem law_c7 {p : Program} {l : Launch} {e : Env} {s : State} {m : MethodId} {below : List Frame} {meth : Method} {c : Code} {G : va_G} {k : Nat → ClassId} {b : Nat} {xs : Nat → Int32} {A : Nat → Prop} (C : Cx p s m #[Value.ref b] meth c code "PotentialBenchLaw" 4 ret meth.name) (K : Kn G k s) (hX : va_X b 6 xs s s.heap) (hbl : b < s.heap.size) (hA : ∀ q, s.heap.size ≤ q → A q) (hA2 : ∀ q, A q → s.heap.size ≤ q) {H : Heap} {locs : List Loc} {pb mo : Nat} {u v : Nat → Nat} (S : Sw G A s.heap H locs [(pb, .inr (0, [.ref (u 0), .ref (u 29), .ref (u 30), .ref (u 35), .ref (u 43), .ref (u 59), .int 0, .int (-2), .int 0])), ((u 0), .inl (k 3, 4, .inr (.inr (.inr (.inr (va_up (va_up (va_up (va_up (fun _ => none) 0 (some (u 1))) 1 (some (u 8))) 2 (some (u 15))) 3 (some (u 22)))))))), ((u 1), .inr (4, [.ref (u 2), .ref (u 3), .ref (u 4), .ref (u 5), .ref (u 6), .ref (u 7), .int 0, .int 0, .int 0])), ((u 30), .inr (6, [.ref (u 0), .ref (u 31), .ref (u 32), .ref (u 33), .ref (u 34), .int 0, .int 0, .int 0, .int 0, .int 0, .long 0, .int (-2)])), ((u 59), .inr (3, [.ref (u 60), .ref (u 61), .ref (u 63), .ref (u 65), .ref (u 67), .ref (u 69), .int 0, .int 0])), (mo, .inr (8, [.int 0, .ref (v 0), .ref (v 1), .ref (v 2), .int (-2), .ref (v 3), .ref (v 4), .ref (v 5), .ref (v 6), .int 0, .long 0, .int (-2), .int 0, .ref (v 7), .ref (v 8), .ref (v 9), .ref (v 10), .ref (v 11), .int 0, .ref (v 12), .int 0, .int 0, .int 0, .int 0, .int 0, .int 0, .int 0, .ref (v 13), .int 0, .int 0, .int 0, .int 0, .ref (v 14), .ref (v 15), .int 0, .ref (v 16), .ref (v 17), .ref (v 18), .ref (v 19), .ref (v 20), .int 0, .ref (v 21), .ref (v 22), .ref (v 23), .ref (v 24), .ref (v 25), .ref (v 26), .ref (v 27), .int 0, .int 0, .int 0, .int 0, .int 0, .int 0, .int 0, .ref (v 28), .ref (v 29), .int 0, .int 0, .int 0, .int 0])), ((v 0), .inl (k 0, 4, .inl (fun _ => 0))), ((v 2), .inl (k 0, 4, .inl (fun _ => 0)))]) (ls : Array Slot) (hl : lv_has ls 4 [(3, .int 0), (2, .ref mo), (1, .ref pb), (0, .ref b)]) : W p l e room_1 s m #[Value.ref b] below meth c H locs 541 404588 (lw_Z below #[Value.ref b] s) (F0 m 282 ls []) := by
  have hx := C.1
  have hb := C.2.1
  have hbA : ¬ A b := fun h => absurd (hA2 b h) (Nat.not_le.mpr hbl)
  refine lv_aload_n hx hb d_La_law_282 rfl (lv_at hl 2 rfl) ?_
  refine r_backi (wi := [(pb, .inr (0, [.ref (u 0), .ref (u 29), .ref (u 30), .ref (u 35), .ref (u 43), .ref (u 59), .int 0, .int (-2), .int 0])), ((u 30), .inr (6, [.ref (u 0), .ref (u 31), .ref (u 32), .ref (u 33), .ref (u 34), .int 0, .int 0, .int 0, .int 0, .int 0, .long 0, .int (-2)]))]) (wr := [((u 0), .inl (k 3, 4, .inr (.inr (.inr (.inr (va_up (va_up (va_up (va_up (fun _ => none) 0 (some (u 1))) 1 (some (u 8))) 2 (some (u 15))) 3 (some (u 22)))))))), ((u 1), .inr (4, [.ref (u 2), .ref (u 3), .ref (u 4), .ref (u 5), .ref (u 6), .ref (u 7), .int 0, .int 0, .int 0])), ((u 59), .inr (3, [.ref (u 60), .ref (u 61), .ref (u 63), .ref (u 65), .ref (u 67), .ref (u 69), .int 0, .int 0])), (mo, .inr (8, [.int 0, .ref (v 0), .ref (v 1), .ref (v 2), .int (-2), .ref (v 3), .ref (v 4), .ref (v 5), .ref (v 6), .int 0, .long 0, .int (-2), .int 0, .ref (v 7), .ref (v 8), .ref (v 9), .ref (v 10), .ref (v 11), .int 0, .ref (v 12), .int 0, .int 0, .int 0, .int 0, .int 0, .int 0, .int 0, .ref (v 13), .int 0, .int 0, .int 0, .int 0, .ref (v 14), .ref (v 15), .int 0, .ref (v 16), .ref (v 17), .ref (v 18), .ref (v 19), .ref (v 20), .int 0, .ref (v 21), .ref (v 22), .ref (v 23), .ref (v 24), .ref (v 25), .ref (v 26), .ref (v 27), .int 0, .int 0, .int 0, .int 0, .int 0, .int 0, .int 0, .ref (v 28), .ref (v 29), .int 0, .int 0, .int 0, .int 0])), ((v 0), .inl (k 0, 4, .inl (fun _ => 0))), ((v 2), .inl (k 0, 4, .inl (fun _ => 0)))]) S hA [0, 3] [1, 2, 4, 5, 6, 7] rfl rfl (by decide) (by decide) (va_runV (As := []) (rest := []) ⟨hx, hb, C.2.2.1, C.2.2.2.1, C.2.2.2.2.1⟩ (f_PB_given l G k pb _ (u 0) (u 29) (u 30) (u 35) (u 43) (u 59) (u 0) (u 31) (u 32) (u 33) (u 34)) (k_virt (n := 0) C wc_PB_given rfl rfl wz_PB wm_La_47 wn_PB_given ws_PB_given (by decide +kernel) ⟨(Nat.le_of_ble_eq_true rfl), (Nat.le_of_ble_eq_true rfl)⟩) (pr_nowV K S [0, 3] (by decide) rfl 0 rfl rfl) rfl rfl hl.1 rfl (lv_room (Nat.le_of_ble_eq_true rfl)) d_La_law_283 ⟨(Nat.le_of_ble_eq_true rfl), (Nat.le_of_ble_eq_true rfl)⟩) (fun r3 u1 H locs hw2 S => ?_)
  have S : Sw G A s.heap _ _ [((u 0), .inl (k 3, 4, .inr (.inr (.inr (.inr (va_up (va_up (va_up (va_up (fun _ => none) 0 (some (u 1))) 1 (some (u 8))) 2 (some (u 15))) 3 (some (u 22)))))))), ((u 1), .inr (4, [.ref (u 2), .ref (u 3), .ref (u 4), .ref (u 5), .ref (u 6), .ref (u 7), .int 0, .int 0, .int 0])), ((u 59), .inr (3, [.ref (u 60), .ref (u 61), .ref (u 63), .ref (u 65), .ref (u 67), .ref (u 69), .int 0, .int 0])), (mo, .inr (8, [.int 0, .ref (v 0), .ref (v 1), .ref (v 2), .int (-2), .ref (v 3), .ref (v 4), .ref (v 5), .ref (v 6), .int 0, .long 0, .int (-2), .int 0, .ref (v 7), .ref (v 8), .ref (v 9), .ref (v 10), .ref (v 11), .int 0, .ref (v 12), .int 0, .int 0, .int 0, .int 0, .int 0, .int 0, .int 0, .ref (v 13), .int 0, .int 0, .int 0, .int 0, .ref (v 14), .ref (v 15), .int 0, .ref (v 16), .ref (v 17), .ref (v 18), .ref (v 19), .ref (v 20), .int 0, .ref (v 21), .ref (v 22), .ref (v 23), .ref (v 24), .ref (v 25), .ref (v 26), .ref (v 27), .int 0, .int 0, .int 0, .int 0, .int 0, .int 0, .int 0, .ref (v 28), .ref (v 29), .int 0, .int 0, .int 0, .int 0])), ((v 0), .inl (k 0, 4, .inl (fun _ => 0))), ((v 2), .inl (k 0, 4, .inl (fun _ => 0)))] := S
  have hw2 : r3 = (-2) := hw2
  subst hw2
  refine lv_aload_n hx hb d_La_law_286 rfl (lv_at hl 1 rfl) ?_
  refine r_backi (wi := [(mo, .inr (8, [.int 0, .ref (v 0), .ref (v 1), .ref (v 2), .int (-2), .ref (v 3), .ref (v 4), .ref (v 5), .ref (v 6), .int 0, .long 0, .int (-2), .int 0, .ref (v 7), .ref (v 8), .ref (v 9), .ref (v 10), .ref (v 11), .int 0, .ref (v 12), .int 0, .int 0, .int 0, .int 0, .int 0, .int 0, .int 0, .ref (v 13), .int 0, .int 0, .int 0, .int 0, .ref (v 14), .ref (v 15), .int 0, .ref (v 16), .ref (v 17), .ref (v 18), .ref (v 19), .ref (v 20), .int 0, .ref (v 21), .ref (v 22), .ref (v 23), .ref (v 24), .ref (v 25), .ref (v 26), .ref (v 27), .int 0, .int 0, .int 0, .int 0, .int 0, .int 0, .int 0, .ref (v 28), .ref (v 29), .int 0, .int 0, .int 0, .int 0]))]) (wr := [((u 0), .inl (k 3, 4, .inr (.inr (.inr (.inr (va_up (va_up (va_up (va_up (fun _ => none) 0 (some (u 1))) 1 (some (u 8))) 2 (some (u 15))) 3 (some (u 22)))))))), ((u 1), .inr (4, [.ref (u 2), .ref (u 3), .ref (u 4), .ref (u 5), .ref (u 6), .ref (u 7), .int 0, .int 0, .int 0])), ((u 59), .inr (3, [.ref (u 60), .ref (u 61), .ref (u 63), .ref (u 65), .ref (u 67), .ref (u 69), .int 0, .int 0])), ((v 0), .inl (k 0, 4, .inl (fun _ => 0))), ((v 2), .inl (k 0, 4, .inl (fun _ => 0)))]) S hA [3] [0, 1, 2, 4, 5] rfl rfl (by decide) (by decide) (va_runV (As := []) (rest := [.int (-2)]) ⟨hx, hb, C.2.2.1, C.2.2.2.1, C.2.2.2.2.1⟩ (f_Mo_given l G k mo _ v) (k_virt (n := 0) C wc_Mo_given rfl rfl wz_Mo wm_La_50 wn_Mo_given ws_Mo_given (by decide +kernel) ⟨(Nat.le_of_ble_eq_true rfl), (Nat.le_of_ble_eq_true rfl)⟩) (pr_nowV K S [3] (by decide) rfl 3 rfl rfl) rfl rfl hl.1 rfl (lv_room (Nat.le_of_ble_eq_true rfl)) d_La_law_287 ⟨(Nat.le_of_ble_eq_true rfl), (Nat.le_of_ble_eq_true rfl)⟩) (fun r6 u4 H locs hw5 S => ?_)
  have S : Sw G A s.heap _ _ [((u 0), .inl (k 3, 4, .inr (.inr (.inr (.inr (va_up (va_up (va_up (va_up (fun _ => none) 0 (some (u 1))) 1 (some (u 8))) 2 (some (u 15))) 3 (some (u 22)))))))), ((u 1), .inr (4, [.ref (u 2), .ref (u 3), .ref (u 4), .ref (u 5), .ref (u 6), .ref (u 7), .int 0, .int 0, .int 0])), ((u 59), .inr (3, [.ref (u 60), .ref (u 61), .ref (u 63), .ref (u 65), .ref (u 67), .ref (u 69), .int 0, .int 0])), ((v 0), .inl (k 0, 4, .inl (fun _ => 0))), ((v 2), .inl (k 0, 4, .inl (fun _ => 0)))] := S
  have hw5 : r6 = (-2) := hw5
  subst hw5
  refine lv_icmp_eq (tgt := 471) hx hb d_La_law_290 (by decide) (fun _ => ?_) (fun hq => absurd (by decide) hq)
  exact law_end C K hX hbl hA hA2 (Nat.le_of_ble_eq_true rfl) (Nat.le_of_ble_eq_true rfl) S ls hl
set_option maxRecDepth 100000 in
set_option maxHeartbeats 4000000 in
theorem law_c8 {p : Program} {l : Launch} {e : Env} {s : State} {m : MethodId} {below : List Frame} {meth : Method} {c : Code} {G : va_G} {k : Nat → ClassId} {b : Nat} {xs : Nat → Int32} {A : Nat → Prop} (C : Cx p s m #[Value.ref b] meth c code "PotentialBenchLaw" 4 ret meth.name) (K : Kn G k s) (hX : va_X b 6 xs s s.heap) (hbl : b < s.heap.size) (hA : ∀ q, s.heap.size ≤ q → A q) (hA2 : ∀ q, A q → s.heap.size ≤ q) {H : Heap} {locs : List Loc} {pb mo : Nat} {u v : Nat → Nat} (S : Sw G A s.heap H locs [(pb, .inr (0, [.ref (u 0), .ref (u 29), .ref (u 30), .ref (u 35), .ref (u 43), .ref (u 59), .int 0, .int (-2), .int 0])), ((u 0), .inl (k 3, 4, .inr (.inr (.inr (.inr (va_up (va_up (va_up (va_up (fun _ => none) 0 (some (u 1))) 1 (some (u 8))) 2 (some (u 15))) 3 (some (u 22)))))))), ((u 1), .inr (4, [.ref (u 2), .ref (u 3), .ref (u 4), .ref (u 5), .ref (u 6), .ref (u 7), .int 0, .int 0, .int 0])), ((u 30), .inr (6, [.ref (u 0), .ref (u 31), .ref (u 32), .ref (u 33), .ref (u 34), .int 0, .int 0, .int 0, .int 0, .int 0, .long 0, .int (-2)])), ((u 59), .inr (3, [.ref (u 60), .ref (u 61), .ref (u 63), .ref (u 65), .ref (u 67), .ref (u 69), .int 0, .int 0])), (mo, .inr (8, [.int 0, .ref (v 0), .ref (v 1), .ref (v 2), .int (-2), .ref (v 3), .ref (v 4), .ref (v 5), .ref (v 6), .int 0, .long 0, .int (-2), .int 0, .ref (v 7), .ref (v 8), .ref (v 9), .ref (v 10), .ref (v 11), .int 0, .ref (v 12), .int 0, .int 0, .int 0, .int 0, .int 0, .int 0, .int 0, .ref (v 13), .int 0, .int 0, .int 0, .int 0, .ref (v 14), .ref (v 15), .int 0, .ref (v 16), .ref (v 17), .ref (v 18), .ref (v 19), .ref (v 20), .int 0, .ref (v 21), .ref (v 22), .ref (v 23), .ref (v 24), .ref (v 25), .ref (v 26), .ref (v 27), .int 0, .int 0, .int 0, .int 0, .int 0, .int 0, .int 0, .ref (v 28), .ref (v 29), .int 0, .int 0, .int 0, .int 0])), ((v 0), .inl (k 0, 4, .inl (fun _ => 0))), ((v 2), .inl (k 0, 4, .inl (fun _ => 0)))]) (ls : Array Slot) (hl : lv_has ls 4 [(3, .int 0), (2, .ref mo), (1, .ref pb), (0, .ref b)]) : W p l e room_1 s m #[Value.ref b] below meth c H locs 541 404588 (lw_Z below #[Value.ref b] s) (F0 m 295 ls []) := by
  have hx := C.1
  have hb := C.2.1
  have hbA : ¬ A b := fun h => absurd (hA2 b h) (Nat.not_le.mpr hbl)
  refine lv_aload_n hx hb d_La_law_295 rfl (lv_at hl 2 rfl) ?_
  refine r_backi (wi := [(pb, .inr (0, [.ref (u 0), .ref (u 29), .ref (u 30), .ref (u 35), .ref (u 43), .ref (u 59), .int 0, .int (-2), .int 0])), ((u 30), .inr (6, [.ref (u 0), .ref (u 31), .ref (u 32), .ref (u 33), .ref (u 34), .int 0, .int 0, .int 0, .int 0, .int 0, .long 0, .int (-2)]))]) (wr := [((u 0), .inl (k 3, 4, .inr (.inr (.inr (.inr (va_up (va_up (va_up (va_up (fun _ => none) 0 (some (u 1))) 1 (some (u 8))) 2 (some (u 15))) 3 (some (u 22)))))))), ((u 1), .inr (4, [.ref (u 2), .ref (u 3), .ref (u 4), .ref (u 5), .ref (u 6), .ref (u 7), .int 0, .int 0, .int 0])), ((u 59), .inr (3, [.ref (u 60), .ref (u 61), .ref (u 63), .ref (u 65), .ref (u 67), .ref (u 69), .int 0, .int 0])), (mo, .inr (8, [.int 0, .ref (v 0), .ref (v 1), .ref (v 2), .int (-2), .ref (v 3), .ref (v 4), .ref (v 5), .ref (v 6), .int 0, .long 0, .int (-2), .int 0, .ref (v 7), .ref (v 8), .ref (v 9), .ref (v 10), .ref (v 11), .int 0, .ref (v 12), .int 0, .int 0, .int 0, .int 0, .int 0, .int 0, .int 0, .ref (v 13), .int 0, .int 0, .int 0, .int 0, .ref (v 14), .ref (v 15), .int 0, .ref (v 16), .ref (v 17), .ref (v 18), .ref (v 19), .ref (v 20), .int 0, .ref (v 21), .ref (v 22), .ref (v 23), .ref (v 24), .ref (v 25), .ref (v 26), .ref (v 27), .int 0, .int 0, .int 0, .int 0, .int 0, .int 0, .int 0, .ref (v 28), .ref (v 29), .int 0, .int 0, .int 0, .int 0])), ((v 0), .inl (k 0, 4, .inl (fun _ => 0))), ((v 2), .inl (k 0, 4, .inl (fun _ => 0)))]) S hA [0, 3] [1, 2, 4, 5, 6, 7] rfl rfl (by decide) (by decide) (va_runV (As := []) (rest := []) ⟨hx, hb, C.2.2.1, C.2.2.2.1, C.2.2.2.2.1⟩ (f_PB_steps l G k pb _ (u 0) (u 29) (u 30) (u 35) (u 43) (u 59) (u 0) (u 31) (u 32) (u 33) (u 34)) (k_virt (n := 0) C wc_PB_steps rfl rfl wz_PB wm_La_51 wn_PB_steps ws_PB_steps (by decide +kernel) ⟨(Nat.le_of_ble_eq_true rfl), (Nat.le_of_ble_eq_true rfl)⟩) (pr_nowV K S [0, 3] (by decide) rfl 0 rfl rfl) rfl rfl hl.1 rfl (lv_room (Nat.le_of_ble_eq_true rfl)) d_La_law_296 ⟨(Nat.le_of_ble_eq_true rfl), (Nat.le_of_ble_eq_true rfl)⟩) (fun r3 u1 H locs hw2 S => ?_)
  have S : Sw G A s.heap _ _ [((u 0), .inl (k 3, 4, .inr (.inr (.inr (.inr (va_up (va_up (va_up (va_up (fun _ => none) 0 (some (u 1))) 1 (some (u 8))) 2 (some (u 15))) 3 (some (u 22)))))))), ((u 1), .inr (4, [.ref (u 2), .ref (u 3), .ref (u 4), .ref (u 5), .ref (u 6), .ref (u 7), .int 0, .int 0, .int 0])), ((u 59), .inr (3, [.ref (u 60), .ref (u 61), .ref (u 63), .ref (u 65), .ref (u 67), .ref (u 69), .int 0, .int 0])), (mo, .inr (8, [.int 0, .ref (v 0), .ref (v 1), .ref (v 2), .int (-2), .ref (v 3), .ref (v 4), .ref (v 5), .ref (v 6), .int 0, .long 0, .int (-2), .int 0, .ref (v 7), .ref (v 8), .ref (v 9), .ref (v 10), .ref (v 11), .int 0, .ref (v 12), .int 0, .int 0, .int 0, .int 0, .int 0, .int 0, .int 0, .ref (v 13), .int 0, .int 0, .int 0, .int 0, .ref (v 14), .ref (v 15), .int 0, .ref (v 16), .ref (v 17), .ref (v 18), .ref (v 19), .ref (v 20), .int 0, .ref (v 21), .ref (v 22), .ref (v 23), .ref (v 24), .ref (v 25), .ref (v 26), .ref (v 27), .int 0, .int 0, .int 0, .int 0, .int 0, .int 0, .int 0, .ref (v 28), .ref (v 29), .int 0, .int 0, .int 0, .int 0])), ((v 0), .inl (k 0, 4, .inl (fun _ => 0))), ((v 2), .inl (k 0, 4, .inl (fun _ => 0)))] := S
  have hw2 : r3 = 0 := hw2
  subst hw2
  refine lv_aload_n hx hb d_La_law_299 rfl (lv_at hl 1 rfl) ?_
  refine r_backi (wi := [(mo, .inr (8, [.int 0, .ref (v 0), .ref (v 1), .ref (v 2), .int (-2), .ref (v 3), .ref (v 4), .ref (v 5), .ref (v 6), .int 0, .long 0, .int (-2), .int 0, .ref (v 7), .ref (v 8), .ref (v 9), .ref (v 10), .ref (v 11), .int 0, .ref (v 12), .int 0, .int 0, .int 0, .int 0, .int 0, .int 0, .int 0, .ref (v 13), .int 0, .int 0, .int 0, .int 0, .ref (v 14), .ref (v 15), .int 0, .ref (v 16), .ref (v 17), .ref (v 18), .ref (v 19), .ref (v 20), .int 0, .ref (v 21), .ref (v 22), .ref (v 23), .ref (v 24), .ref (v 25), .ref (v 26), .ref (v 27), .int 0, .int 0, .int 0, .int 0, .int 0, .int 0, .int 0, .ref (v 28), .ref (v 29), .int 0, .int 0, .int 0, .int 0]))]) (wr := [((u 0), .inl (k 3, 4, .inr (.inr (.inr (.inr (va_up (va_up (va_up (va_up (fun _ => none) 0 (some (u 1))) 1 (some (u 8))) 2 (some (u 15))) 3 (some (u 22)))))))), ((u 1), .inr (4, [.ref (u 2), .ref (u 3), .ref (u 4), .ref (u 5), .ref (u 6), .ref (u 7), .int 0, .int 0, .int 0])), ((u 59), .inr (3, [.ref (u 60), .ref (u 61), .ref (u 63), .ref (u 65), .ref (u 67), .ref (u 69), .int 0, .int 0])), ((v 0), .inl (k 0, 4, .inl (fun _ => 0))), ((v 2), .inl (k 0, 4, .inl (fun _ => 0)))]) S hA [3] [0, 1, 2, 4, 5] rfl rfl (by decide) (by decide) (va_runV (As := []) (rest := [.int 0]) ⟨hx, hb, C.2.2.1, C.2.2.2.1, C.2.2.2.2.1⟩ (f_Mo_steps l G k mo _ v) (k_virt (n := 0) C wc_Mo_steps rfl rfl wz_Mo wm_La_54 wn_Mo_steps ws_Mo_steps (by decide +kernel) ⟨(Nat.le_of_ble_eq_true rfl), (Nat.le_of_ble_eq_true rfl)⟩) (pr_nowV K S [3] (by decide) rfl 3 rfl rfl) rfl rfl hl.1 rfl (lv_room (Nat.le_of_ble_eq_true rfl)) d_La_law_300 ⟨(Nat.le_of_ble_eq_true rfl), (Nat.le_of_ble_eq_true rfl)⟩) (fun r6 u4 H locs hw5 S => ?_)
  have S : Sw G A s.heap _ _ [((u 0), .inl (k 3, 4, .inr (.inr (.inr (.inr (va_up (va_up (va_up (va_up (fun _ => none) 0 (some (u 1))) 1 (some (u 8))) 2 (some (u 15))) 3 (some (u 22)))))))), ((u 1), .inr (4, [.ref (u 2), .ref (u 3), .ref (u 4), .ref (u 5), .ref (u 6), .ref (u 7), .int 0, .int 0, .int 0])), ((u 59), .inr (3, [.ref (u 60), .ref (u 61), .ref (u 63), .ref (u 65), .ref (u 67), .ref (u 69), .int 0, .int 0])), ((v 0), .inl (k 0, 4, .inl (fun _ => 0))), ((v 2), .inl (k 0, 4, .inl (fun _ => 0)))] := S
  have hw5 : r6 = 0 := hw5
  subst hw5
  refine lv_icmp_eq (tgt := 471) hx hb d_La_law_303 (by decide) (fun _ => ?_) (fun hq => absurd (by decide) hq)
  exact law_end C K hX hbl hA hA2 (Nat.le_of_ble_eq_true rfl) (Nat.le_of_ble_eq_true rfl) S ls hl
set_option maxRecDepth 100000 in
set_option maxHeartbeats 4000000 in
theorem law_c9 {p : Program} {l : Launch} {e : Env} {s : State} {m : MethodId} {below : List Frame} {meth : Method} {c : Code} {G : va_G} {k : Nat → ClassId} {b : Nat} {xs : Nat → Int32} {A : Nat → Prop} (C : Cx p s m #[Value.ref b] meth c code "PotentialBenchLaw" 4 ret meth.name) (K : Kn G k s) (hX : va_X b 6 xs s s.heap) (hbl : b < s.heap.size) (hA : ∀ q, s.heap.size ≤ q → A q) (hA2 : ∀ q, A q → s.heap.size ≤ q) {H : Heap} {locs : List Loc} {pb mo : Nat} {u v : Nat → Nat} (S : Sw G A s.heap H locs [(pb, .inr (0, [.ref (u 0), .ref (u 29), .ref (u 30), .ref (u 35), .ref (u 43), .ref (u 59), .int 0, .int (-2), .int 0])), ((u 0), .inl (k 3, 4, .inr (.inr (.inr (.inr (va_up (va_up (va_up (va_up (fun _ => none) 0 (some (u 1))) 1 (some (u 8))) 2 (some (u 15))) 3 (some (u 22)))))))), ((u 1), .inr (4, [.ref (u 2), .ref (u 3), .ref (u 4), .ref (u 5), .ref (u 6), .ref (u 7), .int 0, .int 0, .int 0])), ((u 30), .inr (6, [.ref (u 0), .ref (u 31), .ref (u 32), .ref (u 33), .ref (u 34), .int 0, .int 0, .int 0, .int 0, .int 0, .long 0, .int (-2)])), ((u 59), .inr (3, [.ref (u 60), .ref (u 61), .ref (u 63), .ref (u 65), .ref (u 67), .ref (u 69), .int 0, .int 0])), (mo, .inr (8, [.int 0, .ref (v 0), .ref (v 1), .ref (v 2), .int (-2), .ref (v 3), .ref (v 4), .ref (v 5), .ref (v 6), .int 0, .long 0, .int (-2), .int 0, .ref (v 7), .ref (v 8), .ref (v 9), .ref (v 10), .ref (v 11), .int 0, .ref (v 12), .int 0, .int 0, .int 0, .int 0, .int 0, .int 0, .int 0, .ref (v 13), .int 0, .int 0, .int 0, .int 0, .ref (v 14), .ref (v 15), .int 0, .ref (v 16), .ref (v 17), .ref (v 18), .ref (v 19), .ref (v 20), .int 0, .ref (v 21), .ref (v 22), .ref (v 23), .ref (v 24), .ref (v 25), .ref (v 26), .ref (v 27), .int 0, .int 0, .int 0, .int 0, .int 0, .int 0, .int 0, .ref (v 28), .ref (v 29), .int 0, .int 0, .int 0, .int 0])), ((v 0), .inl (k 0, 4, .inl (fun _ => 0))), ((v 2), .inl (k 0, 4, .inl (fun _ => 0)))]) (ls : Array Slot) (hl : lv_has ls 4 [(3, .int 0), (2, .ref mo), (1, .ref pb), (0, .ref b)]) : W p l e room_1 s m #[Value.ref b] below meth c H locs 541 404588 (lw_Z below #[Value.ref b] s) (F0 m 308 ls []) := by
  have hx := C.1
  have hb := C.2.1
  have hbA : ¬ A b := fun h => absurd (hA2 b h) (Nat.not_le.mpr hbl)
  refine lv_aload_n hx hb d_La_law_308 rfl (lv_at hl 2 rfl) ?_
  refine lv_aload_n hx hb d_La_law_309 rfl (lv_at hl 3 rfl) ?_
  refine lv_iload_n hx hb d_La_law_310 rfl (lv_at hl 0 rfl) ?_
  refine lv_iconst (v := 1) hx hb d_La_law_311 (by decide) ?_
  refine lv_iadd hx hb d_La_law_312 ?_
  rw [show (0 : Int32) + 1 = 1 from by decide]
  refine va_sld hx hb hX hbl hbA S.2.2 (i := 1) (by unfold vp_in; decide) d_La_law_313 ?_
  refine r_backi (wi := [(pb, .inr (0, [.ref (u 0), .ref (u 29), .ref (u 30), .ref (u 35), .ref (u 43), .ref (u 59), .int 0, .int (-2), .int 0])), ((u 59), .inr (3, [.ref (u 60), .ref (u 61), .ref (u 63), .ref (u 65), .ref (u 67), .ref (u 69), .int 0, .int 0]))]) (wr := [((u 0), .inl (k 3, 4, .inr (.inr (.inr (.inr (va_up (va_up (va_up (va_up (fun _ => none) 0 (some (u 1))) 1 (some (u 8))) 2 (some (u 15))) 3 (some (u 22)))))))), ((u 1), .inr (4, [.ref (u 2), .ref (u 3), .ref (u 4), .ref (u 5), .ref (u 6), .ref (u 7), .int 0, .int 0, .int 0])), ((u 30), .inr (6, [.ref (u 0), .ref (u 31), .ref (u 32), .ref (u 33), .ref (u 34), .int 0, .int 0, .int 0, .int 0, .int 0, .long 0, .int (-2)])), (mo, .inr (8, [.int 0, .ref (v 0), .ref (v 1), .ref (v 2), .int (-2), .ref (v 3), .ref (v 4), .ref (v 5), .ref (v 6), .int 0, .long 0, .int (-2), .int 0, .ref (v 7), .ref (v 8), .ref (v 9), .ref (v 10), .ref (v 11), .int 0, .ref (v 12), .int 0, .int 0, .int 0, .int 0, .int 0, .int 0, .int 0, .ref (v 13), .int 0, .int 0, .int 0, .int 0, .ref (v 14), .ref (v 15), .int 0, .ref (v 16), .ref (v 17), .ref (v 18), .ref (v 19), .ref (v 20), .int 0, .ref (v 21), .ref (v 22), .ref (v 23), .ref (v 24), .ref (v 25), .ref (v 26), .ref (v 27), .int 0, .int 0, .int 0, .int 0, .int 0, .int 0, .int 0, .ref (v 28), .ref (v 29), .int 0, .int 0, .int 0, .int 0])), ((v 0), .inl (k 0, 4, .inl (fun _ => 0))), ((v 2), .inl (k 0, 4, .inl (fun _ => 0)))]) S hA [0, 4] [1, 2, 3, 5, 6, 7] rfl rfl (by decide) (by decide) (va_runV (As := [.int (xs (Int32.toNatClampNeg 1))]) (rest := []) ⟨hx, hb, C.2.2.1, C.2.2.2.1, C.2.2.2.2.1⟩ (f_PB_bound l G k pb _ (u 0) (u 29) (u 30) (u 35) (u 43) (u 59) (u 60) (u 61) (u 63) (u 65) (u 67) (u 69) (xs (Int32.toNatClampNeg 1))) (k_virt (n := 1) C wc_PB_bound rfl rfl wz_PB wm_La_55 wn_PB_bound ws_PB_bound (by decide +kernel) ⟨(Nat.le_of_ble_eq_true rfl), (Nat.le_of_ble_eq_true rfl)⟩) (pr_nowV K S [0, 4] (by decide) rfl 0 rfl rfl) rfl rfl hl.1 rfl (lv_room (Nat.le_of_ble_eq_true rfl)) d_La_law_314 ⟨(Nat.le_of_ble_eq_true rfl), (Nat.le_of_ble_eq_true rfl)⟩) (fun r4 u2 H locs hw3 S => ?_)
  have S : Sw G A s.heap _ _ [((u 0), .inl (k 3, 4, .inr (.inr (.inr (.inr (va_up (va_up (va_up (va_up (fun _ => none) 0 (some (u 1))) 1 (some (u 8))) 2 (some (u 15))) 3 (some (u 22)))))))), ((u 1), .inr (4, [.ref (u 2), .ref (u 3), .ref (u 4), .ref (u 5), .ref (u 6), .ref (u 7), .int 0, .int 0, .int 0])), ((u 30), .inr (6, [.ref (u 0), .ref (u 31), .ref (u 32), .ref (u 33), .ref (u 34), .int 0, .int 0, .int 0, .int 0, .int 0, .long 0, .int (-2)])), (mo, .inr (8, [.int 0, .ref (v 0), .ref (v 1), .ref (v 2), .int (-2), .ref (v 3), .ref (v 4), .ref (v 5), .ref (v 6), .int 0, .long 0, .int (-2), .int 0, .ref (v 7), .ref (v 8), .ref (v 9), .ref (v 10), .ref (v 11), .int 0, .ref (v 12), .int 0, .int 0, .int 0, .int 0, .int 0, .int 0, .int 0, .ref (v 13), .int 0, .int 0, .int 0, .int 0, .ref (v 14), .ref (v 15), .int 0, .ref (v 16), .ref (v 17), .ref (v 18), .ref (v 19), .ref (v 20), .int 0, .ref (v 21), .ref (v 22), .ref (v 23), .ref (v 24), .ref (v 25), .ref (v 26), .ref (v 27), .int 0, .int 0, .int 0, .int 0, .int 0, .int 0, .int 0, .ref (v 28), .ref (v 29), .int 0, .int 0, .int 0, .int 0])), ((v 0), .inl (k 0, 4, .inl (fun _ => 0))), ((v 2), .inl (k 0, 4, .inl (fun _ => 0)))] := S
  have hw3 : r4 = (-1) := hw3
  subst hw3
  refine lv_aload_n hx hb d_La_law_317 rfl (lv_at hl 1 rfl) ?_
  refine lv_aload_n hx hb d_La_law_318 rfl (lv_at hl 3 rfl) ?_
  refine lv_iload_n hx hb d_La_law_319 rfl (lv_at hl 0 rfl) ?_
  refine lv_iconst (v := 1) hx hb d_La_law_320 (by decide) ?_
  refine lv_iadd hx hb d_La_law_321 ?_
  rw [show (0 : Int32) + 1 = 1 from by decide]
  refine va_sld hx hb hX hbl hbA S.2.2 (i := 1) (by unfold vp_in; decide) d_La_law_322 ?_
  refine r_backi (wi := [(mo, .inr (8, [.int 0, .ref (v 0), .ref (v 1), .ref (v 2), .int (-2), .ref (v 3), .ref (v 4), .ref (v 5), .ref (v 6), .int 0, .long 0, .int (-2), .int 0, .ref (v 7), .ref (v 8), .ref (v 9), .ref (v 10), .ref (v 11), .int 0, .ref (v 12), .int 0, .int 0, .int 0, .int 0, .int 0, .int 0, .int 0, .ref (v 13), .int 0, .int 0, .int 0, .int 0, .ref (v 14), .ref (v 15), .int 0, .ref (v 16), .ref (v 17), .ref (v 18), .ref (v 19), .ref (v 20), .int 0, .ref (v 21), .ref (v 22), .ref (v 23), .ref (v 24), .ref (v 25), .ref (v 26), .ref (v 27), .int 0, .int 0, .int 0, .int 0, .int 0, .int 0, .int 0, .ref (v 28), .ref (v 29), .int 0, .int 0, .int 0, .int 0]))]) (wr := [((u 0), .inl (k 3, 4, .inr (.inr (.inr (.inr (va_up (va_up (va_up (va_up (fun _ => none) 0 (some (u 1))) 1 (some (u 8))) 2 (some (u 15))) 3 (some (u 22)))))))), ((u 1), .inr (4, [.ref (u 2), .ref (u 3), .ref (u 4), .ref (u 5), .ref (u 6), .ref (u 7), .int 0, .int 0, .int 0])), ((u 30), .inr (6, [.ref (u 0), .ref (u 31), .ref (u 32), .ref (u 33), .ref (u 34), .int 0, .int 0, .int 0, .int 0, .int 0, .long 0, .int (-2)])), ((v 0), .inl (k 0, 4, .inl (fun _ => 0))), ((v 2), .inl (k 0, 4, .inl (fun _ => 0)))]) S hA [3] [0, 1, 2, 4, 5] rfl rfl (by decide) (by decide) (va_runV (As := [.int (xs (Int32.toNatClampNeg 1))]) (rest := [.int (-1)]) ⟨hx, hb, C.2.2.1, C.2.2.2.1, C.2.2.2.2.1⟩ (f_Mo_bound l G k mo _ v (xs (Int32.toNatClampNeg 1))) (k_virt (n := 1) C wc_Mo_bound rfl rfl wz_Mo wm_La_58 wn_Mo_bound ws_Mo_bound (by decide +kernel) ⟨(Nat.le_of_ble_eq_true rfl), (Nat.le_of_ble_eq_true rfl)⟩) (pr_nowV K S [3] (by decide) rfl 3 rfl rfl) rfl rfl hl.1 rfl (lv_room (Nat.le_of_ble_eq_true rfl)) d_La_law_323 ⟨(Nat.le_of_ble_eq_true rfl), (Nat.le_of_ble_eq_true rfl)⟩) (fun r8 u6 H locs hw7 S => ?_)
  have S : Sw G A s.heap _ _ [((u 0), .inl (k 3, 4, .inr (.inr (.inr (.inr (va_up (va_up (va_up (va_up (fun _ => none) 0 (some (u 1))) 1 (some (u 8))) 2 (some (u 15))) 3 (some (u 22)))))))), ((u 1), .inr (4, [.ref (u 2), .ref (u 3), .ref (u 4), .ref (u 5), .ref (u 6), .ref (u 7), .int 0, .int 0, .int 0])), ((u 30), .inr (6, [.ref (u 0), .ref (u 31), .ref (u 32), .ref (u 33), .ref (u 34), .int 0, .int 0, .int 0, .int 0, .int 0, .long 0, .int (-2)])), ((v 0), .inl (k 0, 4, .inl (fun _ => 0))), ((v 2), .inl (k 0, 4, .inl (fun _ => 0)))] := S
  have hw7 : r8 = (-1) := hw7
  subst hw7
  refine lv_icmp_eq (tgt := 471) hx hb d_La_law_326 (by decide) (fun _ => ?_) (fun hq => absurd (by decide) hq)
  exact law_end C K hX hbl hA hA2 (Nat.le_of_ble_eq_true rfl) (Nat.le_of_ble_eq_true rfl) S ls hl
set_option maxRecDepth 100000 in
set_option maxHeartbeats 4000000 in
theorem law_c10 {p : Program} {l : Launch} {e : Env} {s : State} {m : MethodId} {below : List Frame} {meth : Method} {c : Code} {G : va_G} {k : Nat → ClassId} {b : Nat} {xs : Nat → Int32} {A : Nat → Prop} (C : Cx p s m #[Value.ref b] meth c code "PotentialBenchLaw" 4 ret meth.name) (K : Kn G k s) (hX : va_X b 6 xs s s.heap) (hbl : b < s.heap.size) (hA : ∀ q, s.heap.size ≤ q → A q) (hA2 : ∀ q, A q → s.heap.size ≤ q) {H : Heap} {locs : List Loc} {pb mo : Nat} {u v : Nat → Nat} (S : Sw G A s.heap H locs [(pb, .inr (0, [.ref (u 0), .ref (u 29), .ref (u 30), .ref (u 35), .ref (u 43), .ref (u 59), .int 0, .int (-2), .int 0])), ((u 0), .inl (k 3, 4, .inr (.inr (.inr (.inr (va_up (va_up (va_up (va_up (fun _ => none) 0 (some (u 1))) 1 (some (u 8))) 2 (some (u 15))) 3 (some (u 22)))))))), ((u 1), .inr (4, [.ref (u 2), .ref (u 3), .ref (u 4), .ref (u 5), .ref (u 6), .ref (u 7), .int 0, .int 0, .int 0])), ((u 30), .inr (6, [.ref (u 0), .ref (u 31), .ref (u 32), .ref (u 33), .ref (u 34), .int 0, .int 0, .int 0, .int 0, .int 0, .long 0, .int (-2)])), ((u 59), .inr (3, [.ref (u 60), .ref (u 61), .ref (u 63), .ref (u 65), .ref (u 67), .ref (u 69), .int 0, .int 0])), (mo, .inr (8, [.int 0, .ref (v 0), .ref (v 1), .ref (v 2), .int (-2), .ref (v 3), .ref (v 4), .ref (v 5), .ref (v 6), .int 0, .long 0, .int (-2), .int 0, .ref (v 7), .ref (v 8), .ref (v 9), .ref (v 10), .ref (v 11), .int 0, .ref (v 12), .int 0, .int 0, .int 0, .int 0, .int 0, .int 0, .int 0, .ref (v 13), .int 0, .int 0, .int 0, .int 0, .ref (v 14), .ref (v 15), .int 0, .ref (v 16), .ref (v 17), .ref (v 18), .ref (v 19), .ref (v 20), .int 0, .ref (v 21), .ref (v 22), .ref (v 23), .ref (v 24), .ref (v 25), .ref (v 26), .ref (v 27), .int 0, .int 0, .int 0, .int 0, .int 0, .int 0, .int 0, .ref (v 28), .ref (v 29), .int 0, .int 0, .int 0, .int 0])), ((v 0), .inl (k 0, 4, .inl (fun _ => 0))), ((v 2), .inl (k 0, 4, .inl (fun _ => 0)))]) (ls : Array Slot) (hl : lv_has ls 4 [(3, .int 0), (2, .ref mo), (1, .ref pb), (0, .ref b)]) : W p l e room_1 s m #[Value.ref b] below meth c H locs 541 404588 (lw_Z below #[Value.ref b] s) (F0 m 331 ls []) := by
  have hx := C.1
  have hb := C.2.1
  have hbA : ¬ A b := fun h => absurd (hA2 b h) (Nat.not_le.mpr hbl)
  refine lv_aload_n hx hb d_La_law_331 rfl (lv_at hl 2 rfl) ?_
  refine lv_aload_n hx hb d_La_law_332 rfl (lv_at hl 3 rfl) ?_
  refine lv_iload_n hx hb d_La_law_333 rfl (lv_at hl 0 rfl) ?_
  refine lv_iconst (v := 1) hx hb d_La_law_334 (by decide) ?_
  refine lv_iadd hx hb d_La_law_335 ?_
  rw [show (0 : Int32) + 1 = 1 from by decide]
  refine va_sld hx hb hX hbl hbA S.2.2 (i := 1) (by unfold vp_in; decide) d_La_law_336 ?_
  refine r_backi (wi := [(pb, .inr (0, [.ref (u 0), .ref (u 29), .ref (u 30), .ref (u 35), .ref (u 43), .ref (u 59), .int 0, .int (-2), .int 0]))]) (wr := [((u 0), .inl (k 3, 4, .inr (.inr (.inr (.inr (va_up (va_up (va_up (va_up (fun _ => none) 0 (some (u 1))) 1 (some (u 8))) 2 (some (u 15))) 3 (some (u 22)))))))), ((u 1), .inr (4, [.ref (u 2), .ref (u 3), .ref (u 4), .ref (u 5), .ref (u 6), .ref (u 7), .int 0, .int 0, .int 0])), ((u 30), .inr (6, [.ref (u 0), .ref (u 31), .ref (u 32), .ref (u 33), .ref (u 34), .int 0, .int 0, .int 0, .int 0, .int 0, .long 0, .int (-2)])), ((u 59), .inr (3, [.ref (u 60), .ref (u 61), .ref (u 63), .ref (u 65), .ref (u 67), .ref (u 69), .int 0, .int 0])), (mo, .inr (8, [.int 0, .ref (v 0), .ref (v 1), .ref (v 2), .int (-2), .ref (v 3), .ref (v 4), .ref (v 5), .ref (v 6), .int 0, .long 0, .int (-2), .int 0, .ref (v 7), .ref (v 8), .ref (v 9), .ref (v 10), .ref (v 11), .int 0, .ref (v 12), .int 0, .int 0, .int 0, .int 0, .int 0, .int 0, .int 0, .ref (v 13), .int 0, .int 0, .int 0, .int 0, .ref (v 14), .ref (v 15), .int 0, .ref (v 16), .ref (v 17), .ref (v 18), .ref (v 19), .ref (v 20), .int 0, .ref (v 21), .ref (v 22), .ref (v 23), .ref (v 24), .ref (v 25), .ref (v 26), .ref (v 27), .int 0, .int 0, .int 0, .int 0, .int 0, .int 0, .int 0, .ref (v 28), .ref (v 29), .int 0, .int 0, .int 0, .int 0])), ((v 0), .inl (k 0, 4, .inl (fun _ => 0))), ((v 2), .inl (k 0, 4, .inl (fun _ => 0)))]) S hA [0] [1, 2, 3, 4, 5, 6, 7] rfl rfl (by decide) (by decide) (va_runV (As := [.int (xs (Int32.toNatClampNeg 1))]) (rest := []) ⟨hx, hb, C.2.2.1, C.2.2.2.1, C.2.2.2.2.1⟩ (f_PB_told l G k pb _ (u 0) (u 29) (u 30) (u 35) (u 43) (u 59) (xs (Int32.toNatClampNeg 1))) (k_virt (n := 1) C wc_PB_told rfl rfl wz_PB wm_La_59 wn_PB_told ws_PB_told (by decide +kernel) ⟨(Nat.le_of_ble_eq_true rfl), (Nat.le_of_ble_eq_true rfl)⟩) (pr_nowV K S [0] (by decide) rfl 0 rfl rfl) rfl rfl hl.1 rfl (lv_room (Nat.le_of_ble_eq_true rfl)) d_La_law_337 ⟨(Nat.le_of_ble_eq_true rfl), (Nat.le_of_ble_eq_true rfl)⟩) (fun r4 u2 H locs hw3 S => ?_)
  have S : Sw G A s.heap _ _ [((u 0), .inl (k 3, 4, .inr (.inr (.inr (.inr (va_up (va_up (va_up (va_up (fun _ => none) 0 (some (u 1))) 1 (some (u 8))) 2 (some (u 15))) 3 (some (u 22)))))))), ((u 1), .inr (4, [.ref (u 2), .ref (u 3), .ref (u 4), .ref (u 5), .ref (u 6), .ref (u 7), .int 0, .int 0, .int 0])), ((u 30), .inr (6, [.ref (u 0), .ref (u 31), .ref (u 32), .ref (u 33), .ref (u 34), .int 0, .int 0, .int 0, .int 0, .int 0, .long 0, .int (-2)])), ((u 59), .inr (3, [.ref (u 60), .ref (u 61), .ref (u 63), .ref (u 65), .ref (u 67), .ref (u 69), .int 0, .int 0])), (mo, .inr (8, [.int 0, .ref (v 0), .ref (v 1), .ref (v 2), .int (-2), .ref (v 3), .ref (v 4), .ref (v 5), .ref (v 6), .int 0, .long 0, .int (-2), .int 0, .ref (v 7), .ref (v 8), .ref (v 9), .ref (v 10), .ref (v 11), .int 0, .ref (v 12), .int 0, .int 0, .int 0, .int 0, .int 0, .int 0, .int 0, .ref (v 13), .int 0, .int 0, .int 0, .int 0, .ref (v 14), .ref (v 15), .int 0, .ref (v 16), .ref (v 17), .ref (v 18), .ref (v 19), .ref (v 20), .int 0, .ref (v 21), .ref (v 22), .ref (v 23), .ref (v 24), .ref (v 25), .ref (v 26), .ref (v 27), .int 0, .int 0, .int 0, .int 0, .int 0, .int 0, .int 0, .ref (v 28), .ref (v 29), .int 0, .int 0, .int 0, .int 0])), ((v 0), .inl (k 0, 4, .inl (fun _ => 0))), ((v 2), .inl (k 0, 4, .inl (fun _ => 0)))] := S
  have hw3 : r4 = (-2) := hw3
  subst hw3
  refine lv_aload_n hx hb d_La_law_340 rfl (lv_at hl 1 rfl) ?_
  refine lv_aload_n hx hb d_La_law_341 rfl (lv_at hl 3 rfl) ?_
  refine lv_iload_n hx hb d_La_law_342 rfl (lv_at hl 0 rfl) ?_
  refine lv_iconst (v := 1) hx hb d_La_law_343 (by decide) ?_
  refine lv_iadd hx hb d_La_law_344 ?_
  rw [show (0 : Int32) + 1 = 1 from by decide]
  refine va_sld hx hb hX hbl hbA S.2.2 (i := 1) (by unfold vp_in; decide) d_La_law_345 ?_
  refine r_backi (wi := [(mo, .inr (8, [.int 0, .ref (v 0), .ref (v 1), .ref (v 2), .int (-2), .ref (v 3), .ref (v 4), .ref (v 5), .ref (v 6), .int 0, .long 0, .int (-2), .int 0, .ref (v 7), .ref (v 8), .ref (v 9), .ref (v 10), .ref (v 11), .int 0, .ref (v 12), .int 0, .int 0, .int 0, .int 0, .int 0, .int 0, .int 0, .ref (v 13), .int 0, .int 0, .int 0, .int 0, .ref (v 14), .ref (v 15), .int 0, .ref (v 16), .ref (v 17), .ref (v 18), .ref (v 19), .ref (v 20), .int 0, .ref (v 21), .ref (v 22), .ref (v 23), .ref (v 24), .ref (v 25), .ref (v 26), .ref (v 27), .int 0, .int 0, .int 0, .int 0, .int 0, .int 0, .int 0, .ref (v 28), .ref (v 29), .int 0, .int 0, .int 0, .int 0]))]) (wr := [((u 0), .inl (k 3, 4, .inr (.inr (.inr (.inr (va_up (va_up (va_up (va_up (fun _ => none) 0 (some (u 1))) 1 (some (u 8))) 2 (some (u 15))) 3 (some (u 22)))))))), ((u 1), .inr (4, [.ref (u 2), .ref (u 3), .ref (u 4), .ref (u 5), .ref (u 6), .ref (u 7), .int 0, .int 0, .int 0])), ((u 30), .inr (6, [.ref (u 0), .ref (u 31), .ref (u 32), .ref (u 33), .ref (u 34), .int 0, .int 0, .int 0, .int 0, .int 0, .long 0, .int (-2)])), ((u 59), .inr (3, [.ref (u 60), .ref (u 61), .ref (u 63), .ref (u 65), .ref (u 67), .ref (u 69), .int 0, .int 0])), ((v 0), .inl (k 0, 4, .inl (fun _ => 0))), ((v 2), .inl (k 0, 4, .inl (fun _ => 0)))]) S hA [4] [0, 1, 2, 3, 5, 6] rfl rfl (by decide) (by decide) (va_runV (As := [.int (xs (Int32.toNatClampNeg 1))]) (rest := [.int (-2)]) ⟨hx, hb, C.2.2.1, C.2.2.2.1, C.2.2.2.2.1⟩ (f_Mo_told l G k mo _ v (xs (Int32.toNatClampNeg 1))) (k_virt (n := 1) C wc_Mo_told rfl rfl wz_Mo wm_La_62 wn_Mo_told ws_Mo_told (by decide +kernel) ⟨(Nat.le_of_ble_eq_true rfl), (Nat.le_of_ble_eq_true rfl)⟩) (pr_nowV K S [4] (by decide) rfl 4 rfl rfl) rfl rfl hl.1 rfl (lv_room (Nat.le_of_ble_eq_true rfl)) d_La_law_346 ⟨(Nat.le_of_ble_eq_true rfl), (Nat.le_of_ble_eq_true rfl)⟩) (fun r8 u6 H locs hw7 S => ?_)
  have S : Sw G A s.heap _ _ [((u 0), .inl (k 3, 4, .inr (.inr (.inr (.inr (va_up (va_up (va_up (va_up (fun _ => none) 0 (some (u 1))) 1 (some (u 8))) 2 (some (u 15))) 3 (some (u 22)))))))), ((u 1), .inr (4, [.ref (u 2), .ref (u 3), .ref (u 4), .ref (u 5), .ref (u 6), .ref (u 7), .int 0, .int 0, .int 0])), ((u 30), .inr (6, [.ref (u 0), .ref (u 31), .ref (u 32), .ref (u 33), .ref (u 34), .int 0, .int 0, .int 0, .int 0, .int 0, .long 0, .int (-2)])), ((u 59), .inr (3, [.ref (u 60), .ref (u 61), .ref (u 63), .ref (u 65), .ref (u 67), .ref (u 69), .int 0, .int 0])), ((v 0), .inl (k 0, 4, .inl (fun _ => 0))), ((v 2), .inl (k 0, 4, .inl (fun _ => 0)))] := S
  have hw7 : r8 = (-2) := hw7
  subst hw7
  refine lv_icmp_eq (tgt := 471) hx hb d_La_law_349 (by decide) (fun _ => ?_) (fun hq => absurd (by decide) hq)
  exact law_end C K hX hbl hA hA2 (Nat.le_of_ble_eq_true rfl) (Nat.le_of_ble_eq_true rfl) S ls hl
set_option maxRecDepth 100000 in
set_option maxHeartbeats 4000000 in
theorem law_c11 {p : Program} {l : Launch} {e : Env} {s : State} {m : MethodId} {below : List Frame} {meth : Method} {c : Code} {G : va_G} {k : Nat → ClassId} {b : Nat} {xs : Nat → Int32} {A : Nat → Prop} (C : Cx p s m #[Value.ref b] meth c code "PotentialBenchLaw" 4 ret meth.name) (K : Kn G k s) (hX : va_X b 6 xs s s.heap) (hbl : b < s.heap.size) (hA : ∀ q, s.heap.size ≤ q → A q) (hA2 : ∀ q, A q → s.heap.size ≤ q) {H : Heap} {locs : List Loc} {pb mo : Nat} {u v : Nat → Nat} (S : Sw G A s.heap H locs [(pb, .inr (0, [.ref (u 0), .ref (u 29), .ref (u 30), .ref (u 35), .ref (u 43), .ref (u 59), .int 0, .int (-2), .int 0])), ((u 0), .inl (k 3, 4, .inr (.inr (.inr (.inr (va_up (va_up (va_up (va_up (fun _ => none) 0 (some (u 1))) 1 (some (u 8))) 2 (some (u 15))) 3 (some (u 22)))))))), ((u 1), .inr (4, [.ref (u 2), .ref (u 3), .ref (u 4), .ref (u 5), .ref (u 6), .ref (u 7), .int 0, .int 0, .int 0])), ((u 30), .inr (6, [.ref (u 0), .ref (u 31), .ref (u 32), .ref (u 33), .ref (u 34), .int 0, .int 0, .int 0, .int 0, .int 0, .long 0, .int (-2)])), ((u 59), .inr (3, [.ref (u 60), .ref (u 61), .ref (u 63), .ref (u 65), .ref (u 67), .ref (u 69), .int 0, .int 0])), (mo, .inr (8, [.int 0, .ref (v 0), .ref (v 1), .ref (v 2), .int (-2), .ref (v 3), .ref (v 4), .ref (v 5), .ref (v 6), .int 0, .long 0, .int (-2), .int 0, .ref (v 7), .ref (v 8), .ref (v 9), .ref (v 10), .ref (v 11), .int 0, .ref (v 12), .int 0, .int 0, .int 0, .int 0, .int 0, .int 0, .int 0, .ref (v 13), .int 0, .int 0, .int 0, .int 0, .ref (v 14), .ref (v 15), .int 0, .ref (v 16), .ref (v 17), .ref (v 18), .ref (v 19), .ref (v 20), .int 0, .ref (v 21), .ref (v 22), .ref (v 23), .ref (v 24), .ref (v 25), .ref (v 26), .ref (v 27), .int 0, .int 0, .int 0, .int 0, .int 0, .int 0, .int 0, .ref (v 28), .ref (v 29), .int 0, .int 0, .int 0, .int 0])), ((v 0), .inl (k 0, 4, .inl (fun _ => 0))), ((v 2), .inl (k 0, 4, .inl (fun _ => 0)))]) (ls : Array Slot) (hl : lv_has ls 4 [(3, .int 0), (2, .ref mo), (1, .ref pb), (0, .ref b)]) : W p l e room_1 s m #[Value.ref b] below meth c H locs 541 404588 (lw_Z below #[Value.ref b] s) (F0 m 354 ls []) := by
  have hx := C.1
  have hb := C.2.1
  have hbA : ¬ A b := fun h => absurd (hA2 b h) (Nat.not_le.mpr hbl)
  refine lv_aload_n hx hb d_La_law_354 rfl (lv_at hl 2 rfl) ?_
  refine lv_aload_n hx hb d_La_law_355 rfl (lv_at hl 3 rfl) ?_
  refine lv_iload_n hx hb d_La_law_356 rfl (lv_at hl 0 rfl) ?_
  refine lv_iconst (v := 1) hx hb d_La_law_357 (by decide) ?_
  refine lv_iadd hx hb d_La_law_358 ?_
  rw [show (0 : Int32) + 1 = 1 from by decide]
  refine va_sld hx hb hX hbl hbA S.2.2 (i := 1) (by unfold vp_in; decide) d_La_law_359 ?_
  refine lv_aload_n hx hb d_La_law_360 rfl (lv_at hl 3 rfl) ?_
  refine lv_iload_n hx hb d_La_law_361 rfl (lv_at hl 0 rfl) ?_
  refine lv_iconst (v := 2) hx hb d_La_law_362 (by decide) ?_
  refine lv_iadd hx hb d_La_law_363 ?_
  rw [show (0 : Int32) + 2 = 2 from by decide]
  refine va_sld hx hb hX hbl hbA S.2.2 (i := 2) (by unfold vp_in; decide) d_La_law_364 ?_
  refine r_backl (wi := [(pb, .inr (0, [.ref (u 0), .ref (u 29), .ref (u 30), .ref (u 35), .ref (u 43), .ref (u 59), .int 0, .int (-2), .int 0])), ((u 59), .inr (3, [.ref (u 60), .ref (u 61), .ref (u 63), .ref (u 65), .ref (u 67), .ref (u 69), .int 0, .int 0]))]) (wr := [((u 0), .inl (k 3, 4, .inr (.inr (.inr (.inr (va_up (va_up (va_up (va_up (fun _ => none) 0 (some (u 1))) 1 (some (u 8))) 2 (some (u 15))) 3 (some (u 22)))))))), ((u 1), .inr (4, [.ref (u 2), .ref (u 3), .ref (u 4), .ref (u 5), .ref (u 6), .ref (u 7), .int 0, .int 0, .int 0])), ((u 30), .inr (6, [.ref (u 0), .ref (u 31), .ref (u 32), .ref (u 33), .ref (u 34), .int 0, .int 0, .int 0, .int 0, .int 0, .long 0, .int (-2)])), (mo, .inr (8, [.int 0, .ref (v 0), .ref (v 1), .ref (v 2), .int (-2), .ref (v 3), .ref (v 4), .ref (v 5), .ref (v 6), .int 0, .long 0, .int (-2), .int 0, .ref (v 7), .ref (v 8), .ref (v 9), .ref (v 10), .ref (v 11), .int 0, .ref (v 12), .int 0, .int 0, .int 0, .int 0, .int 0, .int 0, .int 0, .ref (v 13), .int 0, .int 0, .int 0, .int 0, .ref (v 14), .ref (v 15), .int 0, .ref (v 16), .ref (v 17), .ref (v 18), .ref (v 19), .ref (v 20), .int 0, .ref (v 21), .ref (v 22), .ref (v 23), .ref (v 24), .ref (v 25), .ref (v 26), .ref (v 27), .int 0, .int 0, .int 0, .int 0, .int 0, .int 0, .int 0, .ref (v 28), .ref (v 29), .int 0, .int 0, .int 0, .int 0])), ((v 0), .inl (k 0, 4, .inl (fun _ => 0))), ((v 2), .inl (k 0, 4, .inl (fun _ => 0)))]) S hA [0, 4] [1, 2, 3, 5, 6, 7] rfl rfl (by decide) (by decide) (va_runV (As := [.int (xs (Int32.toNatClampNeg 1)), .int (xs (Int32.toNatClampNeg 2))]) (rest := []) ⟨hx, hb, C.2.2.1, C.2.2.2.1, C.2.2.2.2.1⟩ (f_PB_scaled l G k pb _ (u 0) (u 29) (u 30) (u 35) (u 43) (u 59) (u 60) (u 61) (u 63) (u 65) (u 67) (u 69) (xs (Int32.toNatClampNeg 1)) (xs (Int32.toNatClampNeg 2))) (k_virt (n := 2) C wc_PB_scaled rfl rfl wz_PB wm_La_63 wn_PB_scaled ws_PB_scaled (by decide +kernel) ⟨(Nat.le_of_ble_eq_true rfl), (Nat.le_of_ble_eq_true rfl)⟩) (pr_nowV K S [0, 4] (by decide) rfl 0 rfl rfl) rfl rfl hl.1 rfl (lv_room (Nat.le_of_ble_eq_true rfl)) d_La_law_365 ⟨(Nat.le_of_ble_eq_true rfl), (Nat.le_of_ble_eq_true rfl)⟩) (fun r5 u3 H locs hw4 S => ?_)
  have S : Sw G A s.heap _ _ [((u 0), .inl (k 3, 4, .inr (.inr (.inr (.inr (va_up (va_up (va_up (va_up (fun _ => none) 0 (some (u 1))) 1 (some (u 8))) 2 (some (u 15))) 3 (some (u 22)))))))), ((u 1), .inr (4, [.ref (u 2), .ref (u 3), .ref (u 4), .ref (u 5), .ref (u 6), .ref (u 7), .int 0, .int 0, .int 0])), ((u 30), .inr (6, [.ref (u 0), .ref (u 31), .ref (u 32), .ref (u 33), .ref (u 34), .int 0, .int 0, .int 0, .int 0, .int 0, .long 0, .int (-2)])), (mo, .inr (8, [.int 0, .ref (v 0), .ref (v 1), .ref (v 2), .int (-2), .ref (v 3), .ref (v 4), .ref (v 5), .ref (v 6), .int 0, .long 0, .int (-2), .int 0, .ref (v 7), .ref (v 8), .ref (v 9), .ref (v 10), .ref (v 11), .int 0, .ref (v 12), .int 0, .int 0, .int 0, .int 0, .int 0, .int 0, .int 0, .ref (v 13), .int 0, .int 0, .int 0, .int 0, .ref (v 14), .ref (v 15), .int 0, .ref (v 16), .ref (v 17), .ref (v 18), .ref (v 19), .ref (v 20), .int 0, .ref (v 21), .ref (v 22), .ref (v 23), .ref (v 24), .ref (v 25), .ref (v 26), .ref (v 27), .int 0, .int 0, .int 0, .int 0, .int 0, .int 0, .int 0, .ref (v 28), .ref (v 29), .int 0, .int 0, .int 0, .int 0])), ((v 0), .inl (k 0, 4, .inl (fun _ => 0))), ((v 2), .inl (k 0, 4, .inl (fun _ => 0)))] := S
  have hw4 : r5 = (-2) := hw4
  subst hw4
  refine lv_aload_n hx hb d_La_law_368 rfl (lv_at hl 1 rfl) ?_
  refine lv_aload_n hx hb d_La_law_369 rfl (lv_at hl 3 rfl) ?_
  refine lv_iload_n hx hb d_La_law_370 rfl (lv_at hl 0 rfl) ?_
  refine lv_iconst (v := 1) hx hb d_La_law_371 (by decide) ?_
  refine lv_iadd hx hb d_La_law_372 ?_
  rw [show (0 : Int32) + 1 = 1 from by decide]
  refine va_sld hx hb hX hbl hbA S.2.2 (i := 1) (by unfold vp_in; decide) d_La_law_373 ?_
  refine lv_aload_n hx hb d_La_law_374 rfl (lv_at hl 3 rfl) ?_
  refine lv_iload_n hx hb d_La_law_375 rfl (lv_at hl 0 rfl) ?_
  refine lv_iconst (v := 2) hx hb d_La_law_376 (by decide) ?_
  refine lv_iadd hx hb d_La_law_377 ?_
  rw [show (0 : Int32) + 2 = 2 from by decide]
  refine va_sld hx hb hX hbl hbA S.2.2 (i := 2) (by unfold vp_in; decide) d_La_law_378 ?_
  refine r_backl (wi := [(mo, .inr (8, [.int 0, .ref (v 0), .ref (v 1), .ref (v 2), .int (-2), .ref (v 3), .ref (v 4), .ref (v 5), .ref (v 6), .int 0, .long 0, .int (-2), .int 0, .ref (v 7), .ref (v 8), .ref (v 9), .ref (v 10), .ref (v 11), .int 0, .ref (v 12), .int 0, .int 0, .int 0, .int 0, .int 0, .int 0, .int 0, .ref (v 13), .int 0, .int 0, .int 0, .int 0, .ref (v 14), .ref (v 15), .int 0, .ref (v 16), .ref (v 17), .ref (v 18), .ref (v 19), .ref (v 20), .int 0, .ref (v 21), .ref (v 22), .ref (v 23), .ref (v 24), .ref (v 25), .ref (v 26), .ref (v 27), .int 0, .int 0, .int 0, .int 0, .int 0, .int 0, .int 0, .ref (v 28), .ref (v 29), .int 0, .int 0, .int 0, .int 0]))]) (wr := [((u 0), .inl (k 3, 4, .inr (.inr (.inr (.inr (va_up (va_up (va_up (va_up (fun _ => none) 0 (some (u 1))) 1 (some (u 8))) 2 (some (u 15))) 3 (some (u 22)))))))), ((u 1), .inr (4, [.ref (u 2), .ref (u 3), .ref (u 4), .ref (u 5), .ref (u 6), .ref (u 7), .int 0, .int 0, .int 0])), ((u 30), .inr (6, [.ref (u 0), .ref (u 31), .ref (u 32), .ref (u 33), .ref (u 34), .int 0, .int 0, .int 0, .int 0, .int 0, .long 0, .int (-2)])), ((v 0), .inl (k 0, 4, .inl (fun _ => 0))), ((v 2), .inl (k 0, 4, .inl (fun _ => 0)))]) S hA [3] [0, 1, 2, 4, 5] rfl rfl (by decide) (by decide) (va_runV (As := [.int (xs (Int32.toNatClampNeg 1)), .int (xs (Int32.toNatClampNeg 2))]) (rest := [.long (-2)]) ⟨hx, hb, C.2.2.1, C.2.2.2.1, C.2.2.2.2.1⟩ (f_Mo_scaled l G k mo _ v (xs (Int32.toNatClampNeg 1)) (xs (Int32.toNatClampNeg 2))) (k_virt (n := 2) C wc_Mo_scaled rfl rfl wz_Mo wm_La_67 wn_Mo_scaled ws_Mo_scaled (by decide +kernel) ⟨(Nat.le_of_ble_eq_true rfl), (Nat.le_of_ble_eq_true rfl)⟩) (pr_nowV K S [3] (by decide) rfl 3 rfl rfl) rfl rfl hl.1 rfl (lv_room (Nat.le_of_ble_eq_true rfl)) d_La_law_379 ⟨(Nat.le_of_ble_eq_true rfl), (Nat.le_of_ble_eq_true rfl)⟩) (fun r10 u8 H locs hw9 S => ?_)
  have S : Sw G A s.heap _ _ [((u 0), .inl (k 3, 4, .inr (.inr (.inr (.inr (va_up (va_up (va_up (va_up (fun _ => none) 0 (some (u 1))) 1 (some (u 8))) 2 (some (u 15))) 3 (some (u 22)))))))), ((u 1), .inr (4, [.ref (u 2), .ref (u 3), .ref (u 4), .ref (u 5), .ref (u 6), .ref (u 7), .int 0, .int 0, .int 0])), ((u 30), .inr (6, [.ref (u 0), .ref (u 31), .ref (u 32), .ref (u 33), .ref (u 34), .int 0, .int 0, .int 0, .int 0, .int 0, .long 0, .int (-2)])), ((v 0), .inl (k 0, 4, .inl (fun _ => 0))), ((v 2), .inl (k 0, 4, .inl (fun _ => 0)))] := S
  have hw9 : r10 = (-2) := hw9
  subst hw9
  refine W.lcmp hx hb d_La_law_382 ?_
  rw [show lg_cmp ((-2) : Int64) (-2) = 0 from by decide]
  refine lv_if_eq (tgt := 471) hx hb d_La_law_383 (by decide) (fun _ => ?_) (fun hq => absurd (by decide) hq)
  exact law_end C K hX hbl hA hA2 (Nat.le_of_ble_eq_true rfl) (Nat.le_of_ble_eq_true rfl) S ls hl
set_option maxRecDepth 100000 in
set_option maxHeartbeats 4000000 in
theorem law_c12 {p : Program} {l : Launch} {e : Env} {s : State} {m : MethodId} {below : List Frame} {meth : Method} {c : Code} {G : va_G} {k : Nat → ClassId} {b : Nat} {xs : Nat → Int32} {A : Nat → Prop} (C : Cx p s m #[Value.ref b] meth c code "PotentialBenchLaw" 4 ret meth.name) (K : Kn G k s) (hX : va_X b 6 xs s s.heap) (hbl : b < s.heap.size) (hA : ∀ q, s.heap.size ≤ q → A q) (hA2 : ∀ q, A q → s.heap.size ≤ q) {H : Heap} {locs : List Loc} {pb mo : Nat} {u v : Nat → Nat} (S : Sw G A s.heap H locs [(pb, .inr (0, [.ref (u 0), .ref (u 29), .ref (u 30), .ref (u 35), .ref (u 43), .ref (u 59), .int 0, .int (-2), .int 0])), ((u 0), .inl (k 3, 4, .inr (.inr (.inr (.inr (va_up (va_up (va_up (va_up (fun _ => none) 0 (some (u 1))) 1 (some (u 8))) 2 (some (u 15))) 3 (some (u 22)))))))), ((u 1), .inr (4, [.ref (u 2), .ref (u 3), .ref (u 4), .ref (u 5), .ref (u 6), .ref (u 7), .int 0, .int 0, .int 0])), ((u 30), .inr (6, [.ref (u 0), .ref (u 31), .ref (u 32), .ref (u 33), .ref (u 34), .int 0, .int 0, .int 0, .int 0, .int 0, .long 0, .int (-2)])), ((u 59), .inr (3, [.ref (u 60), .ref (u 61), .ref (u 63), .ref (u 65), .ref (u 67), .ref (u 69), .int 0, .int 0])), (mo, .inr (8, [.int 0, .ref (v 0), .ref (v 1), .ref (v 2), .int (-2), .ref (v 3), .ref (v 4), .ref (v 5), .ref (v 6), .int 0, .long 0, .int (-2), .int 0, .ref (v 7), .ref (v 8), .ref (v 9), .ref (v 10), .ref (v 11), .int 0, .ref (v 12), .int 0, .int 0, .int 0, .int 0, .int 0, .int 0, .int 0, .ref (v 13), .int 0, .int 0, .int 0, .int 0, .ref (v 14), .ref (v 15), .int 0, .ref (v 16), .ref (v 17), .ref (v 18), .ref (v 19), .ref (v 20), .int 0, .ref (v 21), .ref (v 22), .ref (v 23), .ref (v 24), .ref (v 25), .ref (v 26), .ref (v 27), .int 0, .int 0, .int 0, .int 0, .int 0, .int 0, .int 0, .ref (v 28), .ref (v 29), .int 0, .int 0, .int 0, .int 0])), ((v 0), .inl (k 0, 4, .inl (fun _ => 0))), ((v 2), .inl (k 0, 4, .inl (fun _ => 0)))]) (ls : Array Slot) (hl : lv_has ls 4 [(3, .int 0), (2, .ref mo), (1, .ref pb), (0, .ref b)]) : W p l e room_1 s m #[Value.ref b] below meth c H locs 541 404588 (lw_Z below #[Value.ref b] s) (F0 m 388 ls []) := by
  have hx := C.1
  have hb := C.2.1
  have hbA : ¬ A b := fun h => absurd (hA2 b h) (Nat.not_le.mpr hbl)
  refine lv_aload_n hx hb d_La_law_388 rfl (lv_at hl 2 rfl) ?_
  refine lv_aload_n hx hb d_La_law_389 rfl (lv_at hl 3 rfl) ?_
  refine lv_iload_n hx hb d_La_law_390 rfl (lv_at hl 0 rfl) ?_
  refine lv_iconst (v := 1) hx hb d_La_law_391 (by decide) ?_
  refine lv_iadd hx hb d_La_law_392 ?_
  rw [show (0 : Int32) + 1 = 1 from by decide]
  refine va_sld hx hb hX hbl hbA S.2.2 (i := 1) (by unfold vp_in; decide) d_La_law_393 ?_
  refine lv_aload_n hx hb d_La_law_394 rfl (lv_at hl 3 rfl) ?_
  refine lv_iload_n hx hb d_La_law_395 rfl (lv_at hl 0 rfl) ?_
  refine lv_iconst (v := 2) hx hb d_La_law_396 (by decide) ?_
  refine lv_iadd hx hb d_La_law_397 ?_
  rw [show (0 : Int32) + 2 = 2 from by decide]
  refine va_sld hx hb hX hbl hbA S.2.2 (i := 2) (by unfold vp_in; decide) d_La_law_398 ?_
  refine lv_aload_n hx hb d_La_law_399 rfl (lv_at hl 3 rfl) ?_
  refine lv_iload_n hx hb d_La_law_400 rfl (lv_at hl 0 rfl) ?_
  refine lv_iconst (v := 3) hx hb d_La_law_401 (by decide) ?_
  refine lv_iadd hx hb d_La_law_402 ?_
  rw [show (0 : Int32) + 3 = 3 from by decide]
  refine va_sld hx hb hX hbl hbA S.2.2 (i := 3) (by unfold vp_in; decide) d_La_law_403 ?_
  refine lv_aload_n hx hb d_La_law_404 rfl (lv_at hl 3 rfl) ?_
  refine lv_iload_n hx hb d_La_law_405 rfl (lv_at hl 0 rfl) ?_
  refine lv_iconst (v := 4) hx hb d_La_law_406 (by decide) ?_
  refine lv_iadd hx hb d_La_law_407 ?_
  rw [show (0 : Int32) + 4 = 4 from by decide]
  refine va_sld hx hb hX hbl hbA S.2.2 (i := 4) (by unfold vp_in; decide) d_La_law_408 ?_
  refine lv_i2l (v := ((xs (Int32.toNatClampNeg 4))).toInt64) hx hb d_La_law_409 rfl ?_
  refine lv_bipush (v := 32) hx hb d_La_law_410 (by decide) ?_
  refine lv_lshl (v := ((xs (Int32.toNatClampNeg 4))).toInt64 <<< ((32 : Int32).toInt64 &&& 63)) hx hb d_La_law_412 rfl ?_
  refine lv_topl (fun n5 _ => ?_)
  refine lv_aload_n hx hb d_La_law_413 rfl (lv_at hl 3 rfl) ?_
  refine lv_iload_n hx hb d_La_law_414 rfl (lv_at hl 0 rfl) ?_
  refine lv_iconst (v := 5) hx hb d_La_law_415 (by decide) ?_
  refine lv_iadd hx hb d_La_law_416 ?_
  rw [show (0 : Int32) + 5 = 5 from by decide]
  refine va_sld hx hb hX hbl hbA S.2.2 (i := 5) (by unfold vp_in; decide) d_La_law_417 ?_
  refine lv_i2l (v := ((xs (Int32.toNatClampNeg 5))).toInt64) hx hb d_La_law_418 rfl ?_
  refine lv_ldc2 (v := 4294967295) hx hb C.2.2.2.1 (C.2.2.2.2.1 _ wk_La_68) d_La_law_419 ?_
  refine lv_land hx hb d_La_law_422 ?_
  refine lv_topl (fun n7 _ => ?_)
  refine lv_lor hx hb d_La_law_423 ?_
  refine lv_topl (fun n8 _ => ?_)
  refine r_backi (wi := [(pb, .inr (0, [.ref (u 0), .ref (u 29), .ref (u 30), .ref (u 35), .ref (u 43), .ref (u 59), .int 0, .int (-2), .int 0])), ((u 59), .inr (3, [.ref (u 60), .ref (u 61), .ref (u 63), .ref (u 65), .ref (u 67), .ref (u 69), .int 0, .int 0]))]) (wr := [((u 0), .inl (k 3, 4, .inr (.inr (.inr (.inr (va_up (va_up (va_up (va_up (fun _ => none) 0 (some (u 1))) 1 (some (u 8))) 2 (some (u 15))) 3 (some (u 22)))))))), ((u 1), .inr (4, [.ref (u 2), .ref (u 3), .ref (u 4), .ref (u 5), .ref (u 6), .ref (u 7), .int 0, .int 0, .int 0])), ((u 30), .inr (6, [.ref (u 0), .ref (u 31), .ref (u 32), .ref (u 33), .ref (u 34), .int 0, .int 0, .int 0, .int 0, .int 0, .long 0, .int (-2)])), (mo, .inr (8, [.int 0, .ref (v 0), .ref (v 1), .ref (v 2), .int (-2), .ref (v 3), .ref (v 4), .ref (v 5), .ref (v 6), .int 0, .long 0, .int (-2), .int 0, .ref (v 7), .ref (v 8), .ref (v 9), .ref (v 10), .ref (v 11), .int 0, .ref (v 12), .int 0, .int 0, .int 0, .int 0, .int 0, .int 0, .int 0, .ref (v 13), .int 0, .int 0, .int 0, .int 0, .ref (v 14), .ref (v 15), .int 0, .ref (v 16), .ref (v 17), .ref (v 18), .ref (v 19), .ref (v 20), .int 0, .ref (v 21), .ref (v 22), .ref (v 23), .ref (v 24), .ref (v 25), .ref (v 26), .ref (v 27), .int 0, .int 0, .int 0, .int 0, .int 0, .int 0, .int 0, .ref (v 28), .ref (v 29), .int 0, .int 0, .int 0, .int 0])), ((v 0), .inl (k 0, 4, .inl (fun _ => 0))), ((v 2), .inl (k 0, 4, .inl (fun _ => 0)))]) S hA [0, 4] [1, 2, 3, 5, 6, 7] rfl rfl (by decide) (by decide) (va_runV (As := [.int (xs (Int32.toNatClampNeg 1)), .int (xs (Int32.toNatClampNeg 2)), .int (xs (Int32.toNatClampNeg 3)), .long n8]) (rest := []) ⟨hx, hb, C.2.2.1, C.2.2.2.1, C.2.2.2.2.1⟩ (f_PB_covers l G k pb _ (u 0) (u 29) (u 30) (u 35) (u 43) (u 59) (u 60) (u 61) (u 63) (u 65) (u 67) (u 69) (xs (Int32.toNatClampNeg 1)) (xs (Int32.toNatClampNeg 2)) (xs (Int32.toNatClampNeg 3)) n8) (k_virt (n := 4) C wc_PB_covers rfl rfl wz_PB wm_La_70 wn_PB_covers ws_PB_covers (by decide +kernel) ⟨(Nat.le_of_ble_eq_true rfl), (Nat.le_of_ble_eq_true rfl)⟩) (pr_nowV K S [0, 4] (by decide) rfl 0 rfl rfl) rfl rfl hl.1 rfl (lv_room (Nat.le_of_ble_eq_true rfl)) d_La_law_424 ⟨(Nat.le_of_ble_eq_true rfl), (Nat.le_of_ble_eq_true rfl)⟩) (fun r11 u9 H locs hw10 S => ?_)
  have S : Sw G A s.heap _ _ [((u 0), .inl (k 3, 4, .inr (.inr (.inr (.inr (va_up (va_up (va_up (va_up (fun _ => none) 0 (some (u 1))) 1 (some (u 8))) 2 (some (u 15))) 3 (some (u 22)))))))), ((u 1), .inr (4, [.ref (u 2), .ref (u 3), .ref (u 4), .ref (u 5), .ref (u 6), .ref (u 7), .int 0, .int 0, .int 0])), ((u 30), .inr (6, [.ref (u 0), .ref (u 31), .ref (u 32), .ref (u 33), .ref (u 34), .int 0, .int 0, .int 0, .int 0, .int 0, .long 0, .int (-2)])), (mo, .inr (8, [.int 0, .ref (v 0), .ref (v 1), .ref (v 2), .int (-2), .ref (v 3), .ref (v 4), .ref (v 5), .ref (v 6), .int 0, .long 0, .int (-2), .int 0, .ref (v 7), .ref (v 8), .ref (v 9), .ref (v 10), .ref (v 11), .int 0, .ref (v 12), .int 0, .int 0, .int 0, .int 0, .int 0, .int 0, .int 0, .ref (v 13), .int 0, .int 0, .int 0, .int 0, .ref (v 14), .ref (v 15), .int 0, .ref (v 16), .ref (v 17), .ref (v 18), .ref (v 19), .ref (v 20), .int 0, .ref (v 21), .ref (v 22), .ref (v 23), .ref (v 24), .ref (v 25), .ref (v 26), .ref (v 27), .int 0, .int 0, .int 0, .int 0, .int 0, .int 0, .int 0, .ref (v 28), .ref (v 29), .int 0, .int 0, .int 0, .int 0])), ((v 0), .inl (k 0, 4, .inl (fun _ => 0))), ((v 2), .inl (k 0, 4, .inl (fun _ => 0)))] := S
  have hw10 : r11 = (-2) := hw10
  subst hw10
  refine lv_aload_n hx hb d_La_law_427 rfl (lv_at hl 1 rfl) ?_
  refine lv_aload_n hx hb d_La_law_428 rfl (lv_at hl 3 rfl) ?_
  refine lv_iload_n hx hb d_La_law_429 rfl (lv_at hl 0 rfl) ?_
  refine lv_iconst (v := 1) hx hb d_La_law_430 (by decide) ?_
  refine lv_iadd hx hb d_La_law_431 ?_
  rw [show (0 : Int32) + 1 = 1 from by decide]
  refine va_sld hx hb hX hbl hbA S.2.2 (i := 1) (by unfold vp_in; decide) d_La_law_432 ?_
  refine lv_aload_n hx hb d_La_law_433 rfl (lv_at hl 3 rfl) ?_
  refine lv_iload_n hx hb d_La_law_434 rfl (lv_at hl 0 rfl) ?_
  refine lv_iconst (v := 2) hx hb d_La_law_435 (by decide) ?_
  refine lv_iadd hx hb d_La_law_436 ?_
  rw [show (0 : Int32) + 2 = 2 from by decide]
  refine va_sld hx hb hX hbl hbA S.2.2 (i := 2) (by unfold vp_in; decide) d_La_law_437 ?_
  refine lv_aload_n hx hb d_La_law_438 rfl (lv_at hl 3 rfl) ?_
  refine lv_iload_n hx hb d_La_law_439 rfl (lv_at hl 0 rfl) ?_
  refine lv_iconst (v := 3) hx hb d_La_law_440 (by decide) ?_
  refine lv_iadd hx hb d_La_law_441 ?_
  rw [show (0 : Int32) + 3 = 3 from by decide]
  refine va_sld hx hb hX hbl hbA S.2.2 (i := 3) (by unfold vp_in; decide) d_La_law_442 ?_
  refine lv_aload_n hx hb d_La_law_443 rfl (lv_at hl 3 rfl) ?_
  refine lv_iload_n hx hb d_La_law_444 rfl (lv_at hl 0 rfl) ?_
  refine lv_iconst (v := 4) hx hb d_La_law_445 (by decide) ?_
  refine lv_iadd hx hb d_La_law_446 ?_
  rw [show (0 : Int32) + 4 = 4 from by decide]
  refine va_sld hx hb hX hbl hbA S.2.2 (i := 4) (by unfold vp_in; decide) d_La_law_447 ?_
  refine lv_i2l (v := ((xs (Int32.toNatClampNeg 4))).toInt64) hx hb d_La_law_448 rfl ?_
  refine lv_bipush (v := 32) hx hb d_La_law_449 (by decide) ?_
  refine lv_lshl (v := ((xs (Int32.toNatClampNeg 4))).toInt64 <<< ((32 : Int32).toInt64 &&& 63)) hx hb d_La_law_451 rfl ?_
  refine lv_topl (fun n16 _ => ?_)
  refine lv_aload_n hx hb d_La_law_452 rfl (lv_at hl 3 rfl) ?_
  refine lv_iload_n hx hb d_La_law_453 rfl (lv_at hl 0 rfl) ?_
  refine lv_iconst (v := 5) hx hb d_La_law_454 (by decide) ?_
  refine lv_iadd hx hb d_La_law_455 ?_
  rw [show (0 : Int32) + 5 = 5 from by decide]
  refine va_sld hx hb hX hbl hbA S.2.2 (i := 5) (by unfold vp_in; decide) d_La_law_456 ?_
  refine lv_i2l (v := ((xs (Int32.toNatClampNeg 5))).toInt64) hx hb d_La_law_457 rfl ?_
  refine lv_ldc2 (v := 4294967295) hx hb C.2.2.2.1 (C.2.2.2.2.1 _ wk_La_68) d_La_law_458 ?_
  refine lv_land hx hb d_La_law_461 ?_
  refine lv_topl (fun n18 _ => ?_)
  refine lv_lor hx hb d_La_law_462 ?_
  refine lv_topl (fun n19 _ => ?_)
  refine r_backi (wi := [(mo, .inr (8, [.int 0, .ref (v 0), .ref (v 1), .ref (v 2), .int (-2), .ref (v 3), .ref (v 4), .ref (v 5), .ref (v 6), .int 0, .long 0, .int (-2), .int 0, .ref (v 7), .ref (v 8), .ref (v 9), .ref (v 10), .ref (v 11), .int 0, .ref (v 12), .int 0, .int 0, .int 0, .int 0, .int 0, .int 0, .int 0, .ref (v 13), .int 0, .int 0, .int 0, .int 0, .ref (v 14), .ref (v 15), .int 0, .ref (v 16), .ref (v 17), .ref (v 18), .ref (v 19), .ref (v 20), .int 0, .ref (v 21), .ref (v 22), .ref (v 23), .ref (v 24), .ref (v 25), .ref (v 26), .ref (v 27), .int 0, .int 0, .int 0, .int 0, .int 0, .int 0, .int 0, .ref (v 28), .ref (v 29), .int 0, .int 0, .int 0, .int 0]))]) (wr := [((u 0), .inl (k 3, 4, .inr (.inr (.inr (.inr (va_up (va_up (va_up (va_up (fun _ => none) 0 (some (u 1))) 1 (some (u 8))) 2 (some (u 15))) 3 (some (u 22)))))))), ((u 1), .inr (4, [.ref (u 2), .ref (u 3), .ref (u 4), .ref (u 5), .ref (u 6), .ref (u 7), .int 0, .int 0, .int 0])), ((u 30), .inr (6, [.ref (u 0), .ref (u 31), .ref (u 32), .ref (u 33), .ref (u 34), .int 0, .int 0, .int 0, .int 0, .int 0, .long 0, .int (-2)])), ((v 0), .inl (k 0, 4, .inl (fun _ => 0))), ((v 2), .inl (k 0, 4, .inl (fun _ => 0)))]) S hA [3] [0, 1, 2, 4, 5] rfl rfl (by decide) (by decide) (va_runV (As := [.int (xs (Int32.toNatClampNeg 1)), .int (xs (Int32.toNatClampNeg 2)), .int (xs (Int32.toNatClampNeg 3)), .long n19]) (rest := [.int (-2)]) ⟨hx, hb, C.2.2.1, C.2.2.2.1, C.2.2.2.2.1⟩ (f_Mo_covers l G k mo _ v (xs (Int32.toNatClampNeg 1)) (xs (Int32.toNatClampNeg 2)) (xs (Int32.toNatClampNeg 3)) n19) (k_virt (n := 4) C wc_Mo_covers rfl rfl wz_Mo wm_La_74 wn_Mo_covers ws_Mo_covers (by decide +kernel) ⟨(Nat.le_of_ble_eq_true rfl), (Nat.le_of_ble_eq_true rfl)⟩) (pr_nowV K S [3] (by decide) rfl 3 rfl rfl) rfl rfl hl.1 rfl (lv_room (Nat.le_of_ble_eq_true rfl)) d_La_law_463 ⟨(Nat.le_of_ble_eq_true rfl), (Nat.le_of_ble_eq_true rfl)⟩) (fun r22 u20 H locs hw21 S => ?_)
  have S : Sw G A s.heap _ _ [((u 0), .inl (k 3, 4, .inr (.inr (.inr (.inr (va_up (va_up (va_up (va_up (fun _ => none) 0 (some (u 1))) 1 (some (u 8))) 2 (some (u 15))) 3 (some (u 22)))))))), ((u 1), .inr (4, [.ref (u 2), .ref (u 3), .ref (u 4), .ref (u 5), .ref (u 6), .ref (u 7), .int 0, .int 0, .int 0])), ((u 30), .inr (6, [.ref (u 0), .ref (u 31), .ref (u 32), .ref (u 33), .ref (u 34), .int 0, .int 0, .int 0, .int 0, .int 0, .long 0, .int (-2)])), ((v 0), .inl (k 0, 4, .inl (fun _ => 0))), ((v 2), .inl (k 0, 4, .inl (fun _ => 0)))] := S
  have hw21 : r22 = (-2) := hw21
  subst hw21
  refine lv_icmp_eq (tgt := 471) hx hb d_La_law_466 (by decide) (fun _ => ?_) (fun hq => absurd (by decide) hq)
  exact law_end C K hX hbl hA hA2 (Nat.le_of_ble_eq_true rfl) (Nat.le_of_ble_eq_true rfl) S ls hl
end
section
set_option maxRecDepth 100000 in
set_option maxHeartbeats 4000000 in
/-- what the tables say at the law's entry -/
theorem kn_start {s : State} {args : Array Value} (hts : ∀ w ∈ lw_tbl, w.before args s = true) : ∃ (G : va_G) (k : Nat → ClassId), Kn G k s := by
  have hg : ∀ w ∈ gt, w.before args s = true := fun w h => hts w (gt_law w h)
  obtain ⟨c0, i0, h0⟩ := u_known (C := R_PB) (T := T_PB) (N := 9) (n := 9) hg in_PB (hg _ wi_PB)
  obtain ⟨c1, i1, h1⟩ := u_known (C := R_So) (T := T_So) (N := 14) (n := 14) hg in_So (hg _ wi_So)
  obtain ⟨c2, i2, h2⟩ := u_known (C := R_Wh) (T := T_Wh) (N := 3) (n := 3) hg in_Wh (hg _ wi_Wh)
  obtain ⟨c3, i3, h3⟩ := u_known (C := R_Be) (T := T_Be) (N := 8) (n := 8) hg in_Be (hg _ wi_Be)
  obtain ⟨c4, i4, h4⟩ := u_known (C := R_Bo) (T := T_Bo) (N := 9) (n := 9) hg in_Bo (hg _ wi_Bo)
  obtain ⟨c5, i5, h5⟩ := u_known (C := R_Re) (T := T_Re) (N := 5) (n := 5) hg in_Re (hg _ wi_Re)
  obtain ⟨c6, i6, h6⟩ := u_known (C := R_Ru) (T := T_Ru) (N := 12) (n := 12) hg in_Ru (hg _ wi_Ru)
  obtain ⟨c7, i7, h7⟩ := u_known (C := R_Ne) (T := T_Ne) (N := 12) (n := 12) hg in_Ne (hg _ wi_Ne)
  obtain ⟨c8, i8, h8⟩ := u_known (C := R_Mo) (T := T_Mo) (N := 61) (n := 61) hg in_Mo (hg _ wi_Mo)
  obtain ⟨a0, ka0, x0, f0, e0, g0⟩ := Cond.arrayClass_spec (hg _ wa_int)
  obtain ⟨a1, ka1, x1, f1, e1, g1⟩ := Cond.arrayClass_spec (hg _ wa_long)
  obtain ⟨a2, ka2, x2, f2, e2, g2⟩ := Cond.arrayClass_spec (hg _ wa_boolean)
  have hB : va_AO "PotentialBench$Body" s := va_AO.of (hts _ (List.mem_append_right _ xa_Bo))
  have hW : va_AO "PotentialBench$Whole" s := va_AO.of (hts _ (List.mem_append_right _ xa_Wh))
  have hM : ao_I s := hts _ (List.mem_append_right _ xa_I)
  obtain ⟨x3, a3, ka3, p3, -, q3, r3, t3⟩ := Cond.arrayOver_spec hB
  obtain ⟨x4, a4, ka4, p4, -, q4, r4, t4⟩ := Cond.arrayOver_spec hW
  obtain ⟨x5, a5, ka5, p5, -, q5, r5, t5⟩ := arrayOverA_spec hM
  refine ⟨(fun j => match j with | 0 => c0 | 1 => c1 | 2 => c2 | 3 => c3 | 4 => c4 | 5 => c5 | 6 => c6 | 7 => c7 | _ => c8, fun j => match j with | 0 => i0 | 1 => i1 | 2 => i2 | 3 => i3 | 4 => i4 | 5 => i5 | 6 => i6 | 7 => i7 | _ => i8), fun j => match j with | 0 => a0 | 1 => a1 | 2 => a2 | 3 => a3 | 4 => a4 | _ => a5, ⟨?_, ?_⟩, fun w hw ho => va_Nw.of (nx_tab ho) (hts w (List.mem_append_right _ hw)), hB, hW, hM⟩
  · intro j q hq
    match j, hq with
    | 0, hq => cases hq; exact h0
    | 1, hq => cases hq; exact h1
    | 2, hq => cases hq; exact h2
    | 3, hq => cases hq; exact h3
    | 4, hq => cases hq; exact h4
    | 5, hq => cases hq; exact h5
    | 6, hq => cases hq; exact h6
    | 7, hq => cases hq; exact h7
    | 8, hq => cases hq; exact h8
    | j + 9, hq => simp [cls] at hq
  · intro j q hq
    match j, hq with
    | 0, hq => cases hq; exact ⟨fun n z => ⟨(fun k h => by cases h), ka0, e0, x0, g0⟩, f0⟩
    | 1, hq => cases hq; exact ⟨fun n z => ⟨(fun k h => by cases h), ka1, e1, x1, g1⟩, f1⟩
    | 2, hq => cases hq; exact ⟨fun n z => ⟨(fun k h => by cases h), ka2, e2, x2, g2⟩, f2⟩
    | 3, hq => cases hq; exact ⟨fun n z => ⟨(fun k h => by cases h), ka3, q3, x3, r3⟩, ka3, x3, q3, r3, p3, t3⟩
    | 4, hq => cases hq; exact ⟨fun n z => ⟨(fun k h => by cases h), ka4, q4, x4, r4⟩, ka4, x4, q4, r4, p4, t4⟩
    | 5, hq => cases hq; exact ⟨fun n z => ⟨(fun k h => by cases h), ka5, q5, x5, r5⟩, t5⟩
    | j + 6, hq => simp [tyl] at hq
theorem law_lt : ∀ L, L < 6 → Int32.ofNat L - 6 < 0 := by decide
set_option maxRecDepth 100000 in
set_option maxHeartbeats 4000000 in
/-- THE LAW, from its entry, at one call at most -/
theorem whole_start {p : Program} {e : Env} {s : State} {m : MethodId} {below : List Frame} {meth : Method} {c : Code} (l : Launch) {b L : Nat} {xs : Nat → Int32} (hL : L ≤ 6) (C0 : lw_At p s m meth c b L xs) : W p l e room_1 s m #[Value.ref b] below meth c s.heap [] 0 0 (lw_Z below #[Value.ref b] s) (entryFrame m ([Value.ref b] : List Value).toArray 4) := by
  obtain ⟨hx, hb, hr, hml, hown, hts, hX, hbl, hlocks, hgv⟩ := id C0
  obtain ⟨G, k, K⟩ := kn_start hts
  have C : Cx p s m #[Value.ref b] meth c code "PotentialBenchLaw" 4 ret meth.name := ⟨hx, hb, hml, hown, fun w h => hts w (gt_law w h), hr, hlocks, rfl⟩
  obtain ⟨A, hA, hA2⟩ : ∃ A : Nat → Prop, (∀ q, s.heap.size ≤ q → A q) ∧ ∀ q, A q → s.heap.size ≤ q := ⟨fun q => s.heap.size ≤ q, fun _ h => h, fun _ h => h⟩
  have hbA : ¬ A b := fun h => absurd (hA2 b h) (Nat.not_le.mpr hbl)
  have S : Sw G A s.heap s.heap [] [] := ⟨fun k q h => by simp at h, ⟨fun i j p q h => by simp at h, fun k q h => by simp at h⟩, va_S.rf⟩
  have hl := lv_entry ([.ref b]) (n := 4) (Nat.le_of_ble_eq_true rfl)
  rw [lg_entry_eq]
  generalize (lg_sl ([.ref b]) ++ List.replicate (4 - (lg_sl ([.ref b])).length) Slot.unset).toArray = ls at hl ⊢
  have hl : lv_has ls 4 [(0, .ref b)] := hl
  refine r_new C K S hA 0 rfl clOk_PB wl_La_7 wi_PB wz_PB t_PB k_PB (fs := [.null, .null, .null, .null, .null, .null, .int 0, .int 0, .int 0]) df_PB (Nat.le_of_ble_eq_true rfl) (Nat.le_of_ble_eq_true rfl) d_La_law_0 (fun q1 H S => ?_)
  have S : Sw G A s.heap _ _ [(q1, .inr (0, [.null, .null, .null, .null, .null, .null, .int 0, .int 0, .int 0]))] := S
  refine lv_dup hx hb d_La_law_3 rfl ?_
  refine r_backv (wi := [(q1, .inr (0, [.null, .null, .null, .null, .null, .null, .int 0, .int 0, .int 0]))]) (wr := []) S hA [0] [] rfl rfl (by decide) (by decide) (va_runI (As := []) (rest := [.ref q1]) ⟨hx, hb, C.2.2.1, C.2.2.2.1, C.2.2.2.2.1⟩ (k_PB_init l G k q1 _) (k_ctor (n := 0) C wc_PB_init rfl rfl wz_PB wm_La_9 wn_PB_init rfl (by decide +kernel) ⟨(Nat.le_of_ble_eq_true rfl), (Nat.le_of_ble_eq_true rfl)⟩) (pr_now K S [0] (by decide) rfl) rfl rfl hl.1 rfl (lv_room (Nat.le_of_ble_eq_true rfl)) d_La_law_4 ⟨(Nat.le_of_ble_eq_true rfl), (Nat.le_of_ble_eq_true rfl)⟩) (fun u2 H locs hw3 S => ?_)
  have S : Sw G A s.heap _ _ [(q1, .inr (0, [.ref (u2 0), .ref (u2 29), .ref (u2 30), .ref (u2 35), .ref (u2 43), .ref (u2 59), .int 0, .int (-2), .int 0])), ((u2 0), .inl (k 3, 4, .inr (.inr (.inr (.inr (va_up (va_up (va_up (va_up (fun _ => none) 0 (some (u2 1))) 1 (some (u2 8))) 2 (some (u2 15))) 3 (some (u2 22)))))))), ((u2 1), .inr (4, [.ref (u2 2), .ref (u2 3), .ref (u2 4), .ref (u2 5), .ref (u2 6), .ref (u2 7), .int 0, .int 0, .int 0])), ((u2 2), .inl (k 0, 200, .inl (fun _ => 0))), ((u2 3), .inl (k 0, 40, .inl (fun _ => 0))), ((u2 4), .inl (k 0, 40, .inl (fun _ => 0))), ((u2 5), .inl (k 0, 40, .inl (fun _ => 0))), ((u2 6), .inl (k 0, 40, .inl (fun _ => 0))), ((u2 7), .inl (k 0, 40, .inl (fun _ => 0))), ((u2 8), .inr (4, [.ref (u2 9), .ref (u2 10), .ref (u2 11), .ref (u2 12), .ref (u2 13), .ref (u2 14), .int 0, .int 0, .int 0])), ((u2 9), .inl (k 0, 200, .inl (fun _ => 0))), ((u2 10), .inl (k 0, 40, .inl (fun _ => 0))), ((u2 11), .inl (k 0, 40, .inl (fun _ => 0))), ((u2 12), .inl (k 0, 40, .inl (fun _ => 0))), ((u2 13), .inl (k 0, 40, .inl (fun _ => 0))), ((u2 14), .inl (k 0, 40, .inl (fun _ => 0))), ((u2 15), .inr (4, [.ref (u2 16), .ref (u2 17), .ref (u2 18), .ref (u2 19), .ref (u2 20), .ref (u2 21), .int 0, .int 0, .int 0])), ((u2 16), .inl (k 0, 200, .inl (fun _ => 0))), ((u2 17), .inl (k 0, 40, .inl (fun _ => 0))), ((u2 18), .inl (k 0, 40, .inl (fun _ => 0))), ((u2 19), .inl (k 0, 40, .inl (fun _ => 0))), ((u2 20), .inl (k 0, 40, .inl (fun _ => 0))), ((u2 21), .inl (k 0, 40, .inl (fun _ => 0))), ((u2 22), .inr (4, [.ref (u2 23), .ref (u2 24), .ref (u2 25), .ref (u2 26), .ref (u2 27), .ref (u2 28), .int 0, .int 0, .int 0])), ((u2 23), .inl (k 0, 200, .inl (fun _ => 0))), ((u2 24), .inl (k 0, 40, .inl (fun _ => 0))), ((u2 25), .inl (k 0, 40, .inl (fun _ => 0))), ((u2 26), .inl (k 0, 40, .inl (fun _ => 0))), ((u2 27), .inl (k 0, 40, .inl (fun _ => 0))), ((u2 28), .inl (k 0, 40, .inl (fun _ => 0))), ((u2 29), .inr (5, [.ref (u2 0), .ref (u2 1), .int 0, .int 0, .int (-2)])), ((u2 30), .inr (6, [.ref (u2 0), .ref (u2 31), .ref (u2 32), .ref (u2 33), .ref (u2 34), .int 0, .int 0, .int 0, .int 0, .int 0, .long 0, .int (-2)])), ((u2 31), .inl (k 0, 60, .inl (fun _ => 0))), ((u2 32), .inl (k 0, 1080, .inl (fun _ => 0))), ((u2 33), .inl (k 0, 960, .inl (fun _ => 0))), ((u2 34), .inl (k 0, 60, .inl (fun _ => 0))), ((u2 35), .inr (7, [.ref (u2 0), .ref (u2 36), .ref (u2 37), .ref (u2 38), .ref (u2 39), .ref (u2 40), .ref (u2 41), .ref (u2 42), .ref (u2 1), .int 0, .int 0, .int 0])), ((u2 36), .inl (k 0, 4, .inl (fun _ => 0))), ((u2 37), .inl (k 5, 90, .inr (.inr (.inr (.inr (fun j => some ((u2 37) + 1 + j))))))), ((u2 38), .inl (k 0, 41, .inl (fun _ => 0))), ((u2 39), .inl (k 0, 41, .inl (fun _ => 0))), ((u2 40), .inl (k 5, 306, .inr (.inr (.inr (.inr (fun j => some ((u2 40) + 1 + j))))))), ((u2 41), .inl (k 5, 17, .inr (.inr (.inr (.inr (fun j => some ((u2 41) + 1 + j))))))), ((u2 42), .inl (k 5, 17, .inr (.inr (.inr (.inr (fun j => some ((u2 42) + 1 + j))))))), ((u2 43), .inr (1, [.ref (u2 44), .ref (u2 45), .ref (u2 46), .ref (u2 47), .ref (u2 48), .ref (u2 49), .ref (u2 51), .ref (u2 53), .ref (u2 55), .ref (u2 57), .int 0, .int 0, .int 0, .int 0])), ((u2 44), .inl (k 4, 3731, .inr (.inr (.inr (.inr (fun _ => none)))))), ((u2 45), .inl (k 0, 40, .inl (fun _ => 0))), ((u2 46), .inl (k 0, 40, .inl (fun _ => 0))), ((u2 47), .inl (k 0, 91, .inl (fun _ => 0))), ((u2 48), .inl (k 0, 40, .inl (fun _ => 0))), ((u2 49), .inr (2, [.ref (u2 50), .int 0, .int 0])), ((u2 50), .inl (k 0, 3, .inl (fun _ => 0))), ((u2 51), .inr (2, [.ref (u2 52), .int 0, .int 0])), ((u2 52), .inl (k 0, 3, .inl (fun _ => 0))), ((u2 53), .inr (2, [.ref (u2 54), .int 0, .int 0])), ((u2 54), .inl (k 0, 3, .inl (fun _ => 0))), ((u2 55), .inr (2, [.ref (u2 56), .int 0, .int 0])), ((u2 56), .inl (k 0, 3, .inl (fun _ => 0))), ((u2 57), .inr (2, [.ref (u2 58), .int 0, .int 0])), ((u2 58), .inl (k 0, 3, .inl (fun _ => 0))), ((u2 59), .inr (3, [.ref (u2 60), .ref (u2 61), .ref (u2 63), .ref (u2 65), .ref (u2 67), .ref (u2 69), .int 0, .int 0])), ((u2 60), .inl (k 4, 4, .inr (.inr (.inr (.inr (va_up (va_up (va_up (va_up (fun _ => none) 0 (some (u2 71))) 1 (some (u2 73))) 2 (some (u2 75))) 3 (some (u2 77)))))))), ((u2 61), .inr (2, [.ref (u2 62), .int 0, .int 0])), ((u2 62), .inl (k 0, 3, .inl (fun _ => 0))), ((u2 63), .inr (2, [.ref (u2 64), .int 0, .int 0])), ((u2 64), .inl (k 0, 3, .inl (fun _ => 0))), ((u2 65), .inr (2, [.ref (u2 66), .int 0, .int 0])), ((u2 66), .inl (k 0, 3, .inl (fun _ => 0))), ((u2 67), .inr (2, [.ref (u2 68), .int 0, .int 0])), ((u2 68), .inl (k 0, 3, .inl (fun _ => 0))), ((u2 69), .inr (2, [.ref (u2 70), .int 0, .int 0])), ((u2 70), .inl (k 0, 3, .inl (fun _ => 0))), ((u2 71), .inr (2, [.ref (u2 72), .int 0, .int 0])), ((u2 72), .inl (k 0, 3, .inl (fun _ => 0))), ((u2 73), .inr (2, [.ref (u2 74), .int 0, .int 0])), ((u2 74), .inl (k 0, 3, .inl (fun _ => 0))), ((u2 75), .inr (2, [.ref (u2 76), .int 0, .int 0])), ((u2 76), .inl (k 0, 3, .inl (fun _ => 0))), ((u2 77), .inr (2, [.ref (u2 78), .int 0, .int 0])), ((u2 78), .inl (k 0, 3, .inl (fun _ => 0)))] := S
  refine lv_astore_n (lv' := [(1, .ref q1), (0, .ref b)]) hx hb d_La_law_7 rfl hl (by decide) rfl (fun ls hl => ?_)
  refine r_new C K S hA 8 rfl clOk_Mo wl_La_10 wi_Mo wz_Mo t_Mo k_Mo (fs := [.int 0, .null, .null, .null, .int 0, .null, .null, .null, .null, .int 0, .long 0, .int 0, .int 0, .null, .null, .null, .null, .null, .int 0, .null, .int 0, .int 0, .int 0, .int 0, .int 0, .int 0, .int 0, .null, .int 0, .int 0, .int 0, .int 0, .null, .null, .int 0, .null, .null, .null, .null, .null, .int 0, .null, .null, .null, .null, .null, .null, .null, .int 0, .int 0, .int 0, .int 0, .int 0, .int 0, .int 0, .null, .null, .int 0, .int 0, .int 0, .int 0]) df_Mo (Nat.le_of_ble_eq_true rfl) (Nat.le_of_ble_eq_true rfl) d_La_law_8 (fun q4 H S => ?_)
  have S : Sw G A s.heap _ _ [(q1, .inr (0, [.ref (u2 0), .ref (u2 29), .ref (u2 30), .ref (u2 35), .ref (u2 43), .ref (u2 59), .int 0, .int (-2), .int 0])), ((u2 0), .inl (k 3, 4, .inr (.inr (.inr (.inr (va_up (va_up (va_up (va_up (fun _ => none) 0 (some (u2 1))) 1 (some (u2 8))) 2 (some (u2 15))) 3 (some (u2 22)))))))), ((u2 1), .inr (4, [.ref (u2 2), .ref (u2 3), .ref (u2 4), .ref (u2 5), .ref (u2 6), .ref (u2 7), .int 0, .int 0, .int 0])), ((u2 2), .inl (k 0, 200, .inl (fun _ => 0))), ((u2 3), .inl (k 0, 40, .inl (fun _ => 0))), ((u2 4), .inl (k 0, 40, .inl (fun _ => 0))), ((u2 5), .inl (k 0, 40, .inl (fun _ => 0))), ((u2 6), .inl (k 0, 40, .inl (fun _ => 0))), ((u2 7), .inl (k 0, 40, .inl (fun _ => 0))), ((u2 8), .inr (4, [.ref (u2 9), .ref (u2 10), .ref (u2 11), .ref (u2 12), .ref (u2 13), .ref (u2 14), .int 0, .int 0, .int 0])), ((u2 9), .inl (k 0, 200, .inl (fun _ => 0))), ((u2 10), .inl (k 0, 40, .inl (fun _ => 0))), ((u2 11), .inl (k 0, 40, .inl (fun _ => 0))), ((u2 12), .inl (k 0, 40, .inl (fun _ => 0))), ((u2 13), .inl (k 0, 40, .inl (fun _ => 0))), ((u2 14), .inl (k 0, 40, .inl (fun _ => 0))), ((u2 15), .inr (4, [.ref (u2 16), .ref (u2 17), .ref (u2 18), .ref (u2 19), .ref (u2 20), .ref (u2 21), .int 0, .int 0, .int 0])), ((u2 16), .inl (k 0, 200, .inl (fun _ => 0))), ((u2 17), .inl (k 0, 40, .inl (fun _ => 0))), ((u2 18), .inl (k 0, 40, .inl (fun _ => 0))), ((u2 19), .inl (k 0, 40, .inl (fun _ => 0))), ((u2 20), .inl (k 0, 40, .inl (fun _ => 0))), ((u2 21), .inl (k 0, 40, .inl (fun _ => 0))), ((u2 22), .inr (4, [.ref (u2 23), .ref (u2 24), .ref (u2 25), .ref (u2 26), .ref (u2 27), .ref (u2 28), .int 0, .int 0, .int 0])), ((u2 23), .inl (k 0, 200, .inl (fun _ => 0))), ((u2 24), .inl (k 0, 40, .inl (fun _ => 0))), ((u2 25), .inl (k 0, 40, .inl (fun _ => 0))), ((u2 26), .inl (k 0, 40, .inl (fun _ => 0))), ((u2 27), .inl (k 0, 40, .inl (fun _ => 0))), ((u2 28), .inl (k 0, 40, .inl (fun _ => 0))), ((u2 29), .inr (5, [.ref (u2 0), .ref (u2 1), .int 0, .int 0, .int (-2)])), ((u2 30), .inr (6, [.ref (u2 0), .ref (u2 31), .ref (u2 32), .ref (u2 33), .ref (u2 34), .int 0, .int 0, .int 0, .int 0, .int 0, .long 0, .int (-2)])), ((u2 31), .inl (k 0, 60, .inl (fun _ => 0))), ((u2 32), .inl (k 0, 1080, .inl (fun _ => 0))), ((u2 33), .inl (k 0, 960, .inl (fun _ => 0))), ((u2 34), .inl (k 0, 60, .inl (fun _ => 0))), ((u2 35), .inr (7, [.ref (u2 0), .ref (u2 36), .ref (u2 37), .ref (u2 38), .ref (u2 39), .ref (u2 40), .ref (u2 41), .ref (u2 42), .ref (u2 1), .int 0, .int 0, .int 0])), ((u2 36), .inl (k 0, 4, .inl (fun _ => 0))), ((u2 37), .inl (k 5, 90, .inr (.inr (.inr (.inr (fun j => some ((u2 37) + 1 + j))))))), ((u2 38), .inl (k 0, 41, .inl (fun _ => 0))), ((u2 39), .inl (k 0, 41, .inl (fun _ => 0))), ((u2 40), .inl (k 5, 306, .inr (.inr (.inr (.inr (fun j => some ((u2 40) + 1 + j))))))), ((u2 41), .inl (k 5, 17, .inr (.inr (.inr (.inr (fun j => some ((u2 41) + 1 + j))))))), ((u2 42), .inl (k 5, 17, .inr (.inr (.inr (.inr (fun j => some ((u2 42) + 1 + j))))))), ((u2 43), .inr (1, [.ref (u2 44), .ref (u2 45), .ref (u2 46), .ref (u2 47), .ref (u2 48), .ref (u2 49), .ref (u2 51), .ref (u2 53), .ref (u2 55), .ref (u2 57), .int 0, .int 0, .int 0, .int 0])), ((u2 44), .inl (k 4, 3731, .inr (.inr (.inr (.inr (fun _ => none)))))), ((u2 45), .inl (k 0, 40, .inl (fun _ => 0))), ((u2 46), .inl (k 0, 40, .inl (fun _ => 0))), ((u2 47), .inl (k 0, 91, .inl (fun _ => 0))), ((u2 48), .inl (k 0, 40, .inl (fun _ => 0))), ((u2 49), .inr (2, [.ref (u2 50), .int 0, .int 0])), ((u2 50), .inl (k 0, 3, .inl (fun _ => 0))), ((u2 51), .inr (2, [.ref (u2 52), .int 0, .int 0])), ((u2 52), .inl (k 0, 3, .inl (fun _ => 0))), ((u2 53), .inr (2, [.ref (u2 54), .int 0, .int 0])), ((u2 54), .inl (k 0, 3, .inl (fun _ => 0))), ((u2 55), .inr (2, [.ref (u2 56), .int 0, .int 0])), ((u2 56), .inl (k 0, 3, .inl (fun _ => 0))), ((u2 57), .inr (2, [.ref (u2 58), .int 0, .int 0])), ((u2 58), .inl (k 0, 3, .inl (fun _ => 0))), ((u2 59), .inr (3, [.ref (u2 60), .ref (u2 61), .ref (u2 63), .ref (u2 65), .ref (u2 67), .ref (u2 69), .int 0, .int 0])), ((u2 60), .inl (k 4, 4, .inr (.inr (.inr (.inr (va_up (va_up (va_up (va_up (fun _ => none) 0 (some (u2 71))) 1 (some (u2 73))) 2 (some (u2 75))) 3 (some (u2 77)))))))), ((u2 61), .inr (2, [.ref (u2 62), .int 0, .int 0])), ((u2 62), .inl (k 0, 3, .inl (fun _ => 0))), ((u2 63), .inr (2, [.ref (u2 64), .int 0, .int 0])), ((u2 64), .inl (k 0, 3, .inl (fun _ => 0))), ((u2 65), .inr (2, [.ref (u2 66), .int 0, .int 0])), ((u2 66), .inl (k 0, 3, .inl (fun _ => 0))), ((u2 67), .inr (2, [.ref (u2 68), .int 0, .int 0])), ((u2 68), .inl (k 0, 3, .inl (fun _ => 0))), ((u2 69), .inr (2, [.ref (u2 70), .int 0, .int 0])), ((u2 70), .inl (k 0, 3, .inl (fun _ => 0))), ((u2 71), .inr (2, [.ref (u2 72), .int 0, .int 0])), ((u2 72), .inl (k 0, 3, .inl (fun _ => 0))), ((u2 73), .inr (2, [.ref (u2 74), .int 0, .int 0])), ((u2 74), .inl (k 0, 3, .inl (fun _ => 0))), ((u2 75), .inr (2, [.ref (u2 76), .int 0, .int 0])), ((u2 76), .inl (k 0, 3, .inl (fun _ => 0))), ((u2 77), .inr (2, [.ref (u2 78), .int 0, .int 0])), ((u2 78), .inl (k 0, 3, .inl (fun _ => 0))), (q4, .inr (8, [.int 0, .null, .null, .null, .int 0, .null, .null, .null, .null, .int 0, .long 0, .int 0, .int 0, .null, .null, .null, .null, .null, .int 0, .null, .int 0, .int 0, .int 0, .int 0, .int 0, .int 0, .int 0, .null, .int 0, .int 0, .int 0, .int 0, .null, .null, .int 0, .null, .null, .null, .null, .null, .int 0, .null, .null, .null, .null, .null, .null, .null, .int 0, .int 0, .int 0, .int 0, .int 0, .int 0, .int 0, .null, .null, .int 0, .int 0, .int 0, .int 0]))] := S
  refine lv_dup hx hb d_La_law_11 rfl ?_
  refine r_backv (wi := [(q4, .inr (8, [.int 0, .null, .null, .null, .int 0, .null, .null, .null, .null, .int 0, .long 0, .int 0, .int 0, .null, .null, .null, .null, .null, .int 0, .null, .int 0, .int 0, .int 0, .int 0, .int 0, .int 0, .int 0, .null, .int 0, .int 0, .int 0, .int 0, .null, .null, .int 0, .null, .null, .null, .null, .null, .int 0, .null, .null, .null, .null, .null, .null, .null, .int 0, .int 0, .int 0, .int 0, .int 0, .int 0, .int 0, .null, .null, .int 0, .int 0, .int 0, .int 0]))]) (wr := [(q1, .inr (0, [.ref (u2 0), .ref (u2 29), .ref (u2 30), .ref (u2 35), .ref (u2 43), .ref (u2 59), .int 0, .int (-2), .int 0])), ((u2 0), .inl (k 3, 4, .inr (.inr (.inr (.inr (va_up (va_up (va_up (va_up (fun _ => none) 0 (some (u2 1))) 1 (some (u2 8))) 2 (some (u2 15))) 3 (some (u2 22)))))))), ((u2 1), .inr (4, [.ref (u2 2), .ref (u2 3), .ref (u2 4), .ref (u2 5), .ref (u2 6), .ref (u2 7), .int 0, .int 0, .int 0])), ((u2 2), .inl (k 0, 200, .inl (fun _ => 0))), ((u2 3), .inl (k 0, 40, .inl (fun _ => 0))), ((u2 4), .inl (k 0, 40, .inl (fun _ => 0))), ((u2 5), .inl (k 0, 40, .inl (fun _ => 0))), ((u2 6), .inl (k 0, 40, .inl (fun _ => 0))), ((u2 7), .inl (k 0, 40, .inl (fun _ => 0))), ((u2 8), .inr (4, [.ref (u2 9), .ref (u2 10), .ref (u2 11), .ref (u2 12), .ref (u2 13), .ref (u2 14), .int 0, .int 0, .int 0])), ((u2 9), .inl (k 0, 200, .inl (fun _ => 0))), ((u2 10), .inl (k 0, 40, .inl (fun _ => 0))), ((u2 11), .inl (k 0, 40, .inl (fun _ => 0))), ((u2 12), .inl (k 0, 40, .inl (fun _ => 0))), ((u2 13), .inl (k 0, 40, .inl (fun _ => 0))), ((u2 14), .inl (k 0, 40, .inl (fun _ => 0))), ((u2 15), .inr (4, [.ref (u2 16), .ref (u2 17), .ref (u2 18), .ref (u2 19), .ref (u2 20), .ref (u2 21), .int 0, .int 0, .int 0])), ((u2 16), .inl (k 0, 200, .inl (fun _ => 0))), ((u2 17), .inl (k 0, 40, .inl (fun _ => 0))), ((u2 18), .inl (k 0, 40, .inl (fun _ => 0))), ((u2 19), .inl (k 0, 40, .inl (fun _ => 0))), ((u2 20), .inl (k 0, 40, .inl (fun _ => 0))), ((u2 21), .inl (k 0, 40, .inl (fun _ => 0))), ((u2 22), .inr (4, [.ref (u2 23), .ref (u2 24), .ref (u2 25), .ref (u2 26), .ref (u2 27), .ref (u2 28), .int 0, .int 0, .int 0])), ((u2 23), .inl (k 0, 200, .inl (fun _ => 0))), ((u2 24), .inl (k 0, 40, .inl (fun _ => 0))), ((u2 25), .inl (k 0, 40, .inl (fun _ => 0))), ((u2 26), .inl (k 0, 40, .inl (fun _ => 0))), ((u2 27), .inl (k 0, 40, .inl (fun _ => 0))), ((u2 28), .inl (k 0, 40, .inl (fun _ => 0))), ((u2 29), .inr (5, [.ref (u2 0), .ref (u2 1), .int 0, .int 0, .int (-2)])), ((u2 30), .inr (6, [.ref (u2 0), .ref (u2 31), .ref (u2 32), .ref (u2 33), .ref (u2 34), .int 0, .int 0, .int 0, .int 0, .int 0, .long 0, .int (-2)])), ((u2 31), .inl (k 0, 60, .inl (fun _ => 0))), ((u2 32), .inl (k 0, 1080, .inl (fun _ => 0))), ((u2 33), .inl (k 0, 960, .inl (fun _ => 0))), ((u2 34), .inl (k 0, 60, .inl (fun _ => 0))), ((u2 35), .inr (7, [.ref (u2 0), .ref (u2 36), .ref (u2 37), .ref (u2 38), .ref (u2 39), .ref (u2 40), .ref (u2 41), .ref (u2 42), .ref (u2 1), .int 0, .int 0, .int 0])), ((u2 36), .inl (k 0, 4, .inl (fun _ => 0))), ((u2 37), .inl (k 5, 90, .inr (.inr (.inr (.inr (fun j => some ((u2 37) + 1 + j))))))), ((u2 38), .inl (k 0, 41, .inl (fun _ => 0))), ((u2 39), .inl (k 0, 41, .inl (fun _ => 0))), ((u2 40), .inl (k 5, 306, .inr (.inr (.inr (.inr (fun j => some ((u2 40) + 1 + j))))))), ((u2 41), .inl (k 5, 17, .inr (.inr (.inr (.inr (fun j => some ((u2 41) + 1 + j))))))), ((u2 42), .inl (k 5, 17, .inr (.inr (.inr (.inr (fun j => some ((u2 42) + 1 + j))))))), ((u2 43), .inr (1, [.ref (u2 44), .ref (u2 45), .ref (u2 46), .ref (u2 47), .ref (u2 48), .ref (u2 49), .ref (u2 51), .ref (u2 53), .ref (u2 55), .ref (u2 57), .int 0, .int 0, .int 0, .int 0])), ((u2 44), .inl (k 4, 3731, .inr (.inr (.inr (.inr (fun _ => none)))))), ((u2 45), .inl (k 0, 40, .inl (fun _ => 0))), ((u2 46), .inl (k 0, 40, .inl (fun _ => 0))), ((u2 47), .inl (k 0, 91, .inl (fun _ => 0))), ((u2 48), .inl (k 0, 40, .inl (fun _ => 0))), ((u2 49), .inr (2, [.ref (u2 50), .int 0, .int 0])), ((u2 50), .inl (k 0, 3, .inl (fun _ => 0))), ((u2 51), .inr (2, [.ref (u2 52), .int 0, .int 0])), ((u2 52), .inl (k 0, 3, .inl (fun _ => 0))), ((u2 53), .inr (2, [.ref (u2 54), .int 0, .int 0])), ((u2 54), .inl (k 0, 3, .inl (fun _ => 0))), ((u2 55), .inr (2, [.ref (u2 56), .int 0, .int 0])), ((u2 56), .inl (k 0, 3, .inl (fun _ => 0))), ((u2 57), .inr (2, [.ref (u2 58), .int 0, .int 0])), ((u2 58), .inl (k 0, 3, .inl (fun _ => 0))), ((u2 59), .inr (3, [.ref (u2 60), .ref (u2 61), .ref (u2 63), .ref (u2 65), .ref (u2 67), .ref (u2 69), .int 0, .int 0])), ((u2 60), .inl (k 4, 4, .inr (.inr (.inr (.inr (va_up (va_up (va_up (va_up (fun _ => none) 0 (some (u2 71))) 1 (some (u2 73))) 2 (some (u2 75))) 3 (some (u2 77)))))))), ((u2 61), .inr (2, [.ref (u2 62), .int 0, .int 0])), ((u2 62), .inl (k 0, 3, .inl (fun _ => 0))), ((u2 63), .inr (2, [.ref (u2 64), .int 0, .int 0])), ((u2 64), .inl (k 0, 3, .inl (fun _ => 0))), ((u2 65), .inr (2, [.ref (u2 66), .int 0, .int 0])), ((u2 66), .inl (k 0, 3, .inl (fun _ => 0))), ((u2 67), .inr (2, [.ref (u2 68), .int 0, .int 0])), ((u2 68), .inl (k 0, 3, .inl (fun _ => 0))), ((u2 69), .inr (2, [.ref (u2 70), .int 0, .int 0])), ((u2 70), .inl (k 0, 3, .inl (fun _ => 0))), ((u2 71), .inr (2, [.ref (u2 72), .int 0, .int 0])), ((u2 72), .inl (k 0, 3, .inl (fun _ => 0))), ((u2 73), .inr (2, [.ref (u2 74), .int 0, .int 0])), ((u2 74), .inl (k 0, 3, .inl (fun _ => 0))), ((u2 75), .inr (2, [.ref (u2 76), .int 0, .int 0])), ((u2 76), .inl (k 0, 3, .inl (fun _ => 0))), ((u2 77), .inr (2, [.ref (u2 78), .int 0, .int 0])), ((u2 78), .inl (k 0, 3, .inl (fun _ => 0)))]) S hA [80] [0, 1, 2, 3, 4, 5, 6, 7, 8, 9, 10, 11, 12, 13, 14, 15, 16, 17, 18, 19, 20, 21, 22, 23, 24, 25, 26, 27, 28, 29, 30, 31, 32, 33, 34, 35, 36, 37, 38, 39, 40, 41, 42, 43, 44, 45, 46, 47, 48, 49, 50, 51, 52, 53, 54, 55, 56, 57, 58, 59, 60, 61, 62, 63, 64, 65, 66, 67, 68, 69, 70, 71, 72, 73, 74, 75, 76, 77, 78, 79] rfl rfl (by decide) (by decide) (va_runI (As := []) (rest := [.ref q4]) ⟨hx, hb, C.2.2.1, C.2.2.2.1, C.2.2.2.2.1⟩ (k_Mo_init l G k q4 _) (k_ctor (n := 0) C wc_Mo_init rfl rfl wz_Mo wm_La_12 wn_Mo_init rfl (by decide +kernel) ⟨(Nat.le_of_ble_eq_true rfl), (Nat.le_of_ble_eq_true rfl)⟩) (pr_now K S [80] (by decide) rfl) rfl rfl hl.1 rfl (lv_room (Nat.le_of_ble_eq_true rfl)) d_La_law_12 ⟨(Nat.le_of_ble_eq_true rfl), (Nat.le_of_ble_eq_true rfl)⟩) (fun u5 H locs hw6 S => ?_)
  have S : Sw G A s.heap _ _ [(q1, .inr (0, [.ref (u2 0), .ref (u2 29), .ref (u2 30), .ref (u2 35), .ref (u2 43), .ref (u2 59), .int 0, .int (-2), .int 0])), ((u2 0), .inl (k 3, 4, .inr (.inr (.inr (.inr (va_up (va_up (va_up (va_up (fun _ => none) 0 (some (u2 1))) 1 (some (u2 8))) 2 (some (u2 15))) 3 (some (u2 22)))))))), ((u2 1), .inr (4, [.ref (u2 2), .ref (u2 3), .ref (u2 4), .ref (u2 5), .ref (u2 6), .ref (u2 7), .int 0, .int 0, .int 0])), ((u2 2), .inl (k 0, 200, .inl (fun _ => 0))), ((u2 3), .inl (k 0, 40, .inl (fun _ => 0))), ((u2 4), .inl (k 0, 40, .inl (fun _ => 0))), ((u2 5), .inl (k 0, 40, .inl (fun _ => 0))), ((u2 6), .inl (k 0, 40, .inl (fun _ => 0))), ((u2 7), .inl (k 0, 40, .inl (fun _ => 0))), ((u2 8), .inr (4, [.ref (u2 9), .ref (u2 10), .ref (u2 11), .ref (u2 12), .ref (u2 13), .ref (u2 14), .int 0, .int 0, .int 0])), ((u2 9), .inl (k 0, 200, .inl (fun _ => 0))), ((u2 10), .inl (k 0, 40, .inl (fun _ => 0))), ((u2 11), .inl (k 0, 40, .inl (fun _ => 0))), ((u2 12), .inl (k 0, 40, .inl (fun _ => 0))), ((u2 13), .inl (k 0, 40, .inl (fun _ => 0))), ((u2 14), .inl (k 0, 40, .inl (fun _ => 0))), ((u2 15), .inr (4, [.ref (u2 16), .ref (u2 17), .ref (u2 18), .ref (u2 19), .ref (u2 20), .ref (u2 21), .int 0, .int 0, .int 0])), ((u2 16), .inl (k 0, 200, .inl (fun _ => 0))), ((u2 17), .inl (k 0, 40, .inl (fun _ => 0))), ((u2 18), .inl (k 0, 40, .inl (fun _ => 0))), ((u2 19), .inl (k 0, 40, .inl (fun _ => 0))), ((u2 20), .inl (k 0, 40, .inl (fun _ => 0))), ((u2 21), .inl (k 0, 40, .inl (fun _ => 0))), ((u2 22), .inr (4, [.ref (u2 23), .ref (u2 24), .ref (u2 25), .ref (u2 26), .ref (u2 27), .ref (u2 28), .int 0, .int 0, .int 0])), ((u2 23), .inl (k 0, 200, .inl (fun _ => 0))), ((u2 24), .inl (k 0, 40, .inl (fun _ => 0))), ((u2 25), .inl (k 0, 40, .inl (fun _ => 0))), ((u2 26), .inl (k 0, 40, .inl (fun _ => 0))), ((u2 27), .inl (k 0, 40, .inl (fun _ => 0))), ((u2 28), .inl (k 0, 40, .inl (fun _ => 0))), ((u2 29), .inr (5, [.ref (u2 0), .ref (u2 1), .int 0, .int 0, .int (-2)])), ((u2 30), .inr (6, [.ref (u2 0), .ref (u2 31), .ref (u2 32), .ref (u2 33), .ref (u2 34), .int 0, .int 0, .int 0, .int 0, .int 0, .long 0, .int (-2)])), ((u2 31), .inl (k 0, 60, .inl (fun _ => 0))), ((u2 32), .inl (k 0, 1080, .inl (fun _ => 0))), ((u2 33), .inl (k 0, 960, .inl (fun _ => 0))), ((u2 34), .inl (k 0, 60, .inl (fun _ => 0))), ((u2 35), .inr (7, [.ref (u2 0), .ref (u2 36), .ref (u2 37), .ref (u2 38), .ref (u2 39), .ref (u2 40), .ref (u2 41), .ref (u2 42), .ref (u2 1), .int 0, .int 0, .int 0])), ((u2 36), .inl (k 0, 4, .inl (fun _ => 0))), ((u2 37), .inl (k 5, 90, .inr (.inr (.inr (.inr (fun j => some ((u2 37) + 1 + j))))))), ((u2 38), .inl (k 0, 41, .inl (fun _ => 0))), ((u2 39), .inl (k 0, 41, .inl (fun _ => 0))), ((u2 40), .inl (k 5, 306, .inr (.inr (.inr (.inr (fun j => some ((u2 40) + 1 + j))))))), ((u2 41), .inl (k 5, 17, .inr (.inr (.inr (.inr (fun j => some ((u2 41) + 1 + j))))))), ((u2 42), .inl (k 5, 17, .inr (.inr (.inr (.inr (fun j => some ((u2 42) + 1 + j))))))), ((u2 43), .inr (1, [.ref (u2 44), .ref (u2 45), .ref (u2 46), .ref (u2 47), .ref (u2 48), .ref (u2 49), .ref (u2 51), .ref (u2 53), .ref (u2 55), .ref (u2 57), .int 0, .int 0, .int 0, .int 0])), ((u2 44), .inl (k 4, 3731, .inr (.inr (.inr (.inr (fun _ => none)))))), ((u2 45), .inl (k 0, 40, .inl (fun _ => 0))), ((u2 46), .inl (k 0, 40, .inl (fun _ => 0))), ((u2 47), .inl (k 0, 91, .inl (fun _ => 0))), ((u2 48), .inl (k 0, 40, .inl (fun _ => 0))), ((u2 49), .inr (2, [.ref (u2 50), .int 0, .int 0])), ((u2 50), .inl (k 0, 3, .inl (fun _ => 0))), ((u2 51), .inr (2, [.ref (u2 52), .int 0, .int 0])), ((u2 52), .inl (k 0, 3, .inl (fun _ => 0))), ((u2 53), .inr (2, [.ref (u2 54), .int 0, .int 0])), ((u2 54), .inl (k 0, 3, .inl (fun _ => 0))), ((u2 55), .inr (2, [.ref (u2 56), .int 0, .int 0])), ((u2 56), .inl (k 0, 3, .inl (fun _ => 0))), ((u2 57), .inr (2, [.ref (u2 58), .int 0, .int 0])), ((u2 58), .inl (k 0, 3, .inl (fun _ => 0))), ((u2 59), .inr (3, [.ref (u2 60), .ref (u2 61), .ref (u2 63), .ref (u2 65), .ref (u2 67), .ref (u2 69), .int 0, .int 0])), ((u2 60), .inl (k 4, 4, .inr (.inr (.inr (.inr (va_up (va_up (va_up (va_up (fun _ => none) 0 (some (u2 71))) 1 (some (u2 73))) 2 (some (u2 75))) 3 (some (u2 77)))))))), ((u2 61), .inr (2, [.ref (u2 62), .int 0, .int 0])), ((u2 62), .inl (k 0, 3, .inl (fun _ => 0))), ((u2 63), .inr (2, [.ref (u2 64), .int 0, .int 0])), ((u2 64), .inl (k 0, 3, .inl (fun _ => 0))), ((u2 65), .inr (2, [.ref (u2 66), .int 0, .int 0])), ((u2 66), .inl (k 0, 3, .inl (fun _ => 0))), ((u2 67), .inr (2, [.ref (u2 68), .int 0, .int 0])), ((u2 68), .inl (k 0, 3, .inl (fun _ => 0))), ((u2 69), .inr (2, [.ref (u2 70), .int 0, .int 0])), ((u2 70), .inl (k 0, 3, .inl (fun _ => 0))), ((u2 71), .inr (2, [.ref (u2 72), .int 0, .int 0])), ((u2 72), .inl (k 0, 3, .inl (fun _ => 0))), ((u2 73), .inr (2, [.ref (u2 74), .int 0, .int 0])), ((u2 74), .inl (k 0, 3, .inl (fun _ => 0))), ((u2 75), .inr (2, [.ref (u2 76), .int 0, .int 0])), ((u2 76), .inl (k 0, 3, .inl (fun _ => 0))), ((u2 77), .inr (2, [.ref (u2 78), .int 0, .int 0])), ((u2 78), .inl (k 0, 3, .inl (fun _ => 0))), (q4, .inr (8, [.int 0, .ref (u5 0), .ref (u5 1), .ref (u5 2), .int (-2), .ref (u5 3), .ref (u5 4), .ref (u5 5), .ref (u5 6), .int 0, .long 0, .int (-2), .int 0, .ref (u5 7), .ref (u5 8), .ref (u5 9), .ref (u5 10), .ref (u5 11), .int 0, .ref (u5 12), .int 0, .int 0, .int 0, .int 0, .int 0, .int 0, .int 0, .ref (u5 13), .int 0, .int 0, .int 0, .int 0, .ref (u5 14), .ref (u5 15), .int 0, .ref (u5 16), .ref (u5 17), .ref (u5 18), .ref (u5 19), .ref (u5 20), .int 0, .ref (u5 21), .ref (u5 22), .ref (u5 23), .ref (u5 24), .ref (u5 25), .ref (u5 26), .ref (u5 27), .int 0, .int 0, .int 0, .int 0, .int 0, .int 0, .int 0, .ref (u5 28), .ref (u5 29), .int 0, .int 0, .int 0, .int 0])), ((u5 0), .inl (k 0, 4, .inl (fun _ => 0))), ((u5 1), .inl (k 0, 800, .inl (fun _ => 0))), ((u5 2), .inl (k 0, 4, .inl (fun _ => 0))), ((u5 3), .inl (k 0, 800, .inl (fun _ => 0))), ((u5 4), .inl (k 0, 20, .inl (fun _ => 0))), ((u5 5), .inl (k 0, 20, .inl (fun _ => 0))), ((u5 6), .inl (k 0, 20, .inl (fun _ => 0))), ((u5 7), .inl (k 0, 1200, .inl (fun _ => 0))), ((u5 8), .inl (k 0, 1200, .inl (fun _ => 0))), ((u5 9), .inl (k 0, 1200, .inl (fun _ => 0))), ((u5 10), .inl (k 0, 1200, .inl (fun _ => 0))), ((u5 11), .inl (k 0, 1200, .inl (fun _ => 0))), ((u5 12), .inl (k 0, 1400, .inl (fun _ => 0))), ((u5 13), .inl (k 1, 36982, .inr (.inl (fun _ => 0)))), ((u5 14), .inl (k 0, 4, .inl (fun _ => 0))), ((u5 15), .inl (k 1, 3690, .inr (.inl (fun _ => 0)))), ((u5 16), .inl (k 0, 20, .inl (fun _ => 0))), ((u5 17), .inl (k 0, 20, .inl (fun _ => 0))), ((u5 18), .inl (k 0, 20, .inl (fun _ => 0))), ((u5 19), .inl (k 0, 20, .inl (fun _ => 0))), ((u5 20), .inl (k 0, 20, .inl (fun _ => 0))), ((u5 21), .inl (k 0, 319840, .inl (fun _ => 0))), ((u5 22), .inl (k 0, 3998, .inl (fun _ => 0))), ((u5 23), .inl (k 2, 3998, .inl (fun _ => 0))), ((u5 24), .inl (k 0, 170, .inl (fun _ => 0))), ((u5 25), .inl (k 0, 170, .inl (fun _ => 0))), ((u5 26), .inl (k 0, 170, .inl (fun _ => 0))), ((u5 27), .inl (k 0, 170, .inl (fun _ => 0))), ((u5 28), .inl (k 0, 90, .inl (fun _ => 0))), ((u5 29), .inl (k 0, 41, .inl (fun _ => 0)))] := S
  refine lv_astore_n (lv' := [(2, .ref q4), (1, .ref q1), (0, .ref b)]) hx hb d_La_law_15 rfl hl (by decide) rfl (fun ls hl => ?_)
  refine lv_iconst (v := 0) hx hb d_La_law_16 (by decide) ?_
  refine lv_istore_n (lv' := [(3, .int 0), (2, .ref q4), (1, .ref q1), (0, .ref b)]) hx hb d_La_law_17 rfl hl (by decide) rfl (fun ls hl => ?_)
  have S : Sw G A s.heap _ _ [(q1, .inr (0, [.ref (u2 0), .ref (u2 29), .ref (u2 30), .ref (u2 35), .ref (u2 43), .ref (u2 59), .int 0, .int (-2), .int 0])), ((u2 0), .inl (k 3, 4, .inr (.inr (.inr (.inr (va_up (va_up (va_up (va_up (fun _ => none) 0 (some (u2 1))) 1 (some (u2 8))) 2 (some (u2 15))) 3 (some (u2 22)))))))), ((u2 1), .inr (4, [.ref (u2 2), .ref (u2 3), .ref (u2 4), .ref (u2 5), .ref (u2 6), .ref (u2 7), .int 0, .int 0, .int 0])), ((u2 30), .inr (6, [.ref (u2 0), .ref (u2 31), .ref (u2 32), .ref (u2 33), .ref (u2 34), .int 0, .int 0, .int 0, .int 0, .int 0, .long 0, .int (-2)])), ((u2 59), .inr (3, [.ref (u2 60), .ref (u2 61), .ref (u2 63), .ref (u2 65), .ref (u2 67), .ref (u2 69), .int 0, .int 0])), (q4, .inr (8, [.int 0, .ref (u5 0), .ref (u5 1), .ref (u5 2), .int (-2), .ref (u5 3), .ref (u5 4), .ref (u5 5), .ref (u5 6), .int 0, .long 0, .int (-2), .int 0, .ref (u5 7), .ref (u5 8), .ref (u5 9), .ref (u5 10), .ref (u5 11), .int 0, .ref (u5 12), .int 0, .int 0, .int 0, .int 0, .int 0, .int 0, .int 0, .ref (u5 13), .int 0, .int 0, .int 0, .int 0, .ref (u5 14), .ref (u5 15), .int 0, .ref (u5 16), .ref (u5 17), .ref (u5 18), .ref (u5 19), .ref (u5 20), .int 0, .ref (u5 21), .ref (u5 22), .ref (u5 23), .ref (u5 24), .ref (u5 25), .ref (u5 26), .ref (u5 27), .int 0, .int 0, .int 0, .int 0, .int 0, .int 0, .int 0, .ref (u5 28), .ref (u5 29), .int 0, .int 0, .int 0, .int 0])), ((u5 0), .inl (k 0, 4, .inl (fun _ => 0))), ((u5 2), .inl (k 0, 4, .inl (fun _ => 0)))] := S.sub [0, 1, 2, 31, 60, 80, 81, 83] (by decide) rfl
  refine W.widen (k := 541) (n := 404588) (Nat.le_of_ble_eq_true rfl) (Nat.le_of_ble_eq_true rfl) ?_
  refine lv_iload_n hx hb d_La_law_18 rfl (lv_at hl 0 rfl) ?_
  refine lv_aload_n hx hb d_La_law_19 rfl (lv_at hl 3 rfl) ?_
  refine va_slen hx hb hX hbl hbA S.2.2 d_La_law_20 ?_
  refine lv_bipush (v := 6) hx hb d_La_law_21 (by decide) ?_
  refine lv_isub hx hb d_La_law_23 ?_
  rcases Nat.lt_or_ge L 6 with h6 | h6
  · refine lv_icmp_gt (tgt := 477) hx hb d_La_law_24 (by decide) (fun _ => ?_) (fun hq => absurd (law_lt L h6) hq)
    refine lv_iconst (v := 1) hx hb d_La_law_477 (by decide) ?_
    refine va_forget (fun q hq => hA2 _ (S.2.2.2.2 q hq)) ?_
    refine W.widen (k := 600000) (n := 7302250) (Nat.le_of_ble_eq_true rfl) (Nat.le_of_ble_eq_true rfl) ?_
    exact lw_ret hx hb hr hlocks d_La_law_478
  · obtain rfl : L = 6 := by omega
    refine lv_icmp_gt (tgt := 477) hx hb d_La_law_24 (by decide) (fun hq => absurd hq (by decide)) (fun _ => ?_)
    refine lv_aload_n hx hb d_La_law_27 rfl (lv_at hl 3 rfl) ?_
    refine lv_iload_n hx hb d_La_law_28 rfl (lv_at hl 0 rfl) ?_
    refine va_sld hx hb hX hbl hbA S.2.2 (i := 0) (by unfold vp_in; decide) d_La_law_29 ?_
    refine lv_bipush (v := 15) hx hb d_La_law_30 (by decide) ?_
    refine lv_iand hx hb d_La_law_32 ?_
    obtain ⟨j, hj, ej⟩ := pk_andE (xs (Int32.toNatClampNeg 0)) (m := 15) 4 (by decide)
    rw [ej]
    have hj : j < 16 := hj
    rcases (show j = 0 ∨ j = 1 ∨ j = 2 ∨ j = 3 ∨ j = 4 ∨ j = 5 ∨ j = 6 ∨ j = 7 ∨ j = 8 ∨ j = 9 ∨ j = 10 ∨ j = 11 ∨ j = 12 ∨ j = 13 ∨ j = 14 ∨ j = 15 by omega) with rfl | rfl | rfl | rfl | rfl | rfl | rfl | rfl | rfl | rfl | rfl | rfl | rfl | rfl | rfl | rfl
    · refine lv_tableIn (tgt := 100) (off := 67) hx hb d_La_law_33 (by decide) (by decide) (by decide) (by decide) ?_
      exact law_c0 C K hX hbl hA hA2 S ls hl
    · refine lv_tableIn (tgt := 123) (off := 90) hx hb d_La_law_33 (by decide) (by decide) (by decide) (by decide) ?_
      exact law_c1 C K hX hbl hA hA2 S ls hl
    · refine lv_tableIn (tgt := 156) (off := 123) hx hb d_La_law_33 (by decide) (by decide) (by decide) (by decide) ?_
      exact law_c2 C K hX hbl hA hA2 S ls hl
    · refine lv_tableIn (tgt := 189) (off := 156) hx hb d_La_law_33 (by decide) (by decide) (by decide) (by decide) ?_
      exact law_c3 C K hX hbl hA hA2 S ls hl
    · refine lv_tableIn (tgt := 202) (off := 169) hx hb d_La_law_33 (by decide) (by decide) (by decide) (by decide) ?_
      exact law_c4 C K hX hbl hA hA2 S ls hl
    · refine lv_tableIn (tgt := 215) (off := 182) hx hb d_La_law_33 (by decide) (by decide) (by decide) (by decide) ?_
      exact law_c5 C K hX hbl hA hA2 S ls hl
    · refine lv_tableIn (tgt := 268) (off := 235) hx hb d_La_law_33 (by decide) (by decide) (by decide) (by decide) ?_
      exact law_c6 C K hX hbl hA hA2 S ls hl
    · refine lv_tableIn (tgt := 282) (off := 249) hx hb d_La_law_33 (by decide) (by decide) (by decide) (by decide) ?_
      exact law_c7 C K hX hbl hA hA2 S ls hl
    · refine lv_tableIn (tgt := 295) (off := 262) hx hb d_La_law_33 (by decide) (by decide) (by decide) (by decide) ?_
      exact law_c8 C K hX hbl hA hA2 S ls hl
    · refine lv_tableIn (tgt := 308) (off := 275) hx hb d_La_law_33 (by decide) (by decide) (by decide) (by decide) ?_
      exact law_c9 C K hX hbl hA hA2 S ls hl
    · refine lv_tableIn (tgt := 331) (off := 298) hx hb d_La_law_33 (by decide) (by decide) (by decide) (by decide) ?_
      exact law_c10 C K hX hbl hA hA2 S ls hl
    · refine lv_tableIn (tgt := 354) (off := 321) hx hb d_La_law_33 (by decide) (by decide) (by decide) (by decide) ?_
      exact law_c11 C K hX hbl hA hA2 S ls hl
    · refine lv_tableIn (tgt := 388) (off := 355) hx hb d_La_law_33 (by decide) (by decide) (by decide) (by decide) ?_
      exact law_c12 C K hX hbl hA hA2 S ls hl
    · refine lv_tableOut (tgt := 471) hx hb d_La_law_33 (Or.inr (by decide)) (by decide) ?_
      exact law_end C K hX hbl hA hA2 (Nat.le_of_ble_eq_true rfl) (Nat.le_of_ble_eq_true rfl) S ls hl
    · refine lv_tableOut (tgt := 471) hx hb d_La_law_33 (Or.inr (by decide)) (by decide) ?_
      exact law_end C K hX hbl hA hA2 (Nat.le_of_ble_eq_true rfl) (Nat.le_of_ble_eq_true rfl) S ls hl
    · refine lv_tableOut (tgt := 471) hx hb d_La_law_33 (Or.inr (by decide)) (by decide) ?_
      exact law_end C K hX hbl hA hA2 (Nat.le_of_ble_eq_true rfl) (Nat.le_of_ble_eq_true rfl) S ls hl
end
section
set_option maxHeartbeats 4000000 in
theorem lw_walk (l : Launch) (b : Addr) (xs : List Int32) : MetFree l x (headSpec (Jvm.Cond.code x code maxLocals ret :: tables_1) room_1) (lw_P b xs) (fun _ _ _ _ _ => True) lw_Q := by
  refine MetFree.of_bodyS (code := code) (maxLocals := maxLocals) (ret := ret) (by decide) ?_ ?_
  · intro args s m h hn
    obtain ⟨meth, c, h1, h2, h3, h4, h5, h6, -, -⟩ := Cond.code_spec hn (atoms_spec (ws := Jvm.Cond.code x code maxLocals ret :: tables_1) h _ List.mem_cons_self)
    exact ⟨meth, c, h1, h2, h3, h4, h5, h6⟩
  · intro p e s m args below meth c s₁ B hml0 hP _
    obtain ⟨rfl, hx, hbd, hgv⟩ := hP
    obtain ⟨scr, harrAt, hlist, hof, hsmall⟩ := hx
    obtain ⟨hcb, hkn, -, -⟩ := State.arrayAt?_spec harrAt
    have hown : s.vm.findClass R_law = some m.cls := findClass_of_methodNamed B.named
    have hts0 : ∀ c ∈ (Jvm.Cond.code x code maxLocals ret :: tables_1), c.before #[Value.ref b] s = true := atoms_spec (ws := Jvm.Cond.code x code maxLocals ret :: tables_1) B.pre
    have hts : ∀ w ∈ lw_tbl, w.before #[Value.ref b] s = true := k2_hts_sels lw_privs (fun w hw => hts0 w (List.mem_cons_of_mem _ hw)) lw_privs_ok
    have hml : c.maxLocals = 4 := B.maxLocals_eq (hts0 _ List.mem_cons_self)
    have X₀ : Stand p l e room_1 s m #[Value.ref b] below meth c s₁ [] 0 0 := Stand.of_body B
    have hh0 : s₁.heap = s.heap := by rw [B.state]; rfl
    have hsz : scr.slots.size = xs.length := by rw [← Array.length_toList, hlist, List.length_map]
    have hval : ∀ j : Nat, j < xs.length → scr.slots[j]? = some (.int (xs.getD j 0)) := fun j hj => by
      rw [← Array.getElem?_toList, hlist]
      simp [hj]
    have hbl : b < s.heap.size := (Array.getElem?_eq_some_iff.mp hcb).1
    have hX : va_X b xs.length (fun j => xs.getD j 0) s s.heap := ⟨scr, hcb, hof, hkn, hsz, hval⟩
    have K : W p l e room_1 s m #[Value.ref b] below meth c s₁.heap [] 0 0 (lw_Z below #[Value.ref b] s) (entryFrame m ([Value.ref b] : List Value).toArray 4) := by
      rw [hh0]
      exact whole_start l hbd ⟨B.exec, B.bytes, B.returns, hml, hown, hts, hX, hbl, B.notSynchronized, hgv⟩
    obtain ⟨t, a1, o, b1, b2, b3⟩ := K s₁ rfl X₀
    exact ⟨t, o, a1, b1, b2, b3⟩
theorem lw_pre_spec {args : Array Value} {s : State} (h : (Jvm.Cond.and given_1 narrow_1).before args s = true) (hr : rest_1_c.before args s = true) : ∃ (b : Addr) (xs : List Int32), lw_P b xs args s := by
  have hs := flat_of_before _ h
  have hq := flat_of_before _ hr
  have hc : (Cond.count 1).before args s = true := hs _ (by decide +kernel)
  have harr : (Cond.arrayOf (.arg 0) .int).before args s = true := hs _ (by decide +kernel)
  have hle : (Cond.le (.length (.arg 0)) (.int 6)).before args s = true := hs _ (by decide +kernel)
  have hlen : (Cond.isInt (.length (.arg 0))).before args s = true := hq _ (by decide +kernel)
  have hall : (Cond.all (.arg 0) (.isInt (.elem (.arg 0) (.index 0)))).before args s = true := hq _ (by decide +kernel)
  obtain ⟨b, xs, hb, hx⟩ := State.ints_of_pre rfl harr hlen hall
  have hsm : xs.length < 2 ^ 31 := hx.choose_spec.2.2.2
  have hev : (Term.length (.arg 0)).eval args s none [] s = some (.int xs.length.toInt32) := hx.length_eval hb
  have hv := Cond.le_ints hev (show (Term.int 6).eval args s none [] s = some (.int 6) from rfl)
  have hd : xs.length.toInt32 ≤ 6 := by
    simpa [Cond.before, Cond.holds, hv] using hle
  have hN : xs.length ≤ 6 := (Int32.ofNat_le_ofNat hsm (by decide)).mp (show Int32.ofNat xs.length ≤ Int32.ofNat 6 from hd)
  exact ⟨b, xs, Cond.one_arg hc (show args[0]? = some (.ref b) from hb), hx, hN, h⟩
theorem lw_comes (l : Launch) : Comes l x (Jvm.Cond.code x code maxLocals ret :: tables_1) room_1 (fun tb e args s => Calls_1 tb e args s ∧ rest_1 tb e args s ∧ Pre_1 tb e args s)
    (fun _ _ args s o t => lw_Q args s o t) := by
  intro p e ha hc hk s m args below hf hfit hheap happ hpre
  obtain ⟨b, xs, hP⟩ := lw_pre_spec hpre.2.2 hpre.2.1
  obtain ⟨k, o, h1, h2, h3, hQ⟩ := lw_walk l b xs p e ha hc hk s m args below hf ((Spec.applies_iff_loose hf).mp happ).1 hP trivial
  exact ⟨k, o, h1, h2, h3, hQ⟩
theorem lw_frame {s t : State} {o : Outcome} {args : Array Value} (h : Framed s o t [] 600000 7302250) :
    Framed s o t (fieldLocs frame_1_writes args s ++ arrayLocs frame_1_arrays args s ++ staticLocs frame_1_statics s) 600000 7302250 := h
theorem lw_limb (L : Cond) (hL : ∀ (args : Array Value) (s t : State), L.after args s (.returned (some (.int 1))) t = true) :
    ArmFor flags0 classFile x code maxLocals ret World_1 tables_1 room_1 Calls_1 rest_1 Pre_1
      (fun tb e a s o t => postC L tb e a s o t ∧ Framed s o t (fieldLocs frame_1_writes a s ++ arrayLocs frame_1_arrays a s ++ staticLocs frame_1_statics s) 600000 7302250) := by
  intro l _ _ _ p e ha hc hk s m args below hf hfit hheap happ hpre
  obtain ⟨k, o, h1, h2, h3, rfl, hF⟩ := lw_comes l p e ha hc hk s m args below hf hfit hheap happ hpre
  exact ⟨k, _, h1, h2, h3, hL args s _, lw_frame hF⟩
theorem i_vc : Claimed_1_1 ∧ Claimed_1_2 := ⟨lw_limb limb_1_1 (fun args s t => by simp [limb_1_1, Cond.after, Cond.holds, Cond.value]), lw_limb limb_1_2 (fun args s t => Cond.after_iff.mpr (by
  first | (rw [show limb_1_2 = Cond.eq .result (.int 1) from rfl, Cond.eq_ints (x := 1) (y := 1) rfl rfl]; simp; done) | (simp [limb_1_2, Cond.value, Term.eval]; done)))⟩
end
