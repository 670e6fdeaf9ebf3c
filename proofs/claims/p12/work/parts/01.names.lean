theorem tq_1 {w : Cond} (h : w ∈ tables_1_1) : w ∈ tables_1 := List.mem_append_left _ h
theorem tq_2 {w : Cond} (h : w ∈ tables_1_2) : w ∈ tables_1 := List.mem_append_right _ (List.mem_append_left _ h)
theorem tq_3 {w : Cond} (h : w ∈ tables_1_3) : w ∈ tables_1 := List.mem_append_right _ (List.mem_append_right _ (List.mem_append_left _ h))
theorem tq_4 {w : Cond} (h : w ∈ tables_1_4) : w ∈ tables_1 := List.mem_append_right _ (List.mem_append_right _ (List.mem_append_right _ (List.mem_append_left _ h)))
theorem tq_5 {w : Cond} (h : w ∈ tables_1_5) : w ∈ tables_1 := List.mem_append_right _ (List.mem_append_right _ (List.mem_append_right _ (List.mem_append_right _ (List.mem_append_left _ h))))
theorem tq_6 {w : Cond} (h : w ∈ tables_1_6) : w ∈ tables_1 := List.mem_append_right _ (List.mem_append_right _ (List.mem_append_right _ (List.mem_append_right _ (List.mem_append_right _ (h)))))
-- ===== PART A: goes FIRST, ahead of the names: the tables' words, and 'selects' of the private methods out of them =====
/-- a private method of a class that the tables say can be made, by its rows of tables_1 -/
def lw_okq (q : MethodName × Nat) : Prop := (q.1.cls ≠ "java/lang/invoke/MethodHandle" ∧ q.1.cls ≠ "java/lang/invoke/VarHandle") ∧ Cond.instantiable q.1.cls q.2 ∈ tables_1 ∧ Cond.privateMethod q.1 ∈ tables_1 ∧ Cond.instanceMethod q.1 ∈ tables_1
set_option maxRecDepth 100000 in
theorem lw_p0 : lw_okq (⟨"PotentialBench", "isFunction", "(I)Z"⟩, 9) := ⟨⟨by decide +kernel, by decide +kernel⟩, tq_1 (List.mem_of_getElem? (i := 16) rfl), tq_2 (List.mem_of_getElem? (i := 95) rfl), tq_2 (List.mem_of_getElem? (i := 96) rfl)⟩
set_option maxRecDepth 100000 in
theorem lw_p1 : lw_okq (⟨"PotentialBench", "firstWrong", "()I"⟩, 9) := ⟨⟨by decide +kernel, by decide +kernel⟩, tq_1 (List.mem_of_getElem? (i := 16) rfl), tq_2 (List.mem_of_getElem? (i := 107) rfl), tq_2 (List.mem_of_getElem? (i := 108) rfl)⟩
set_option maxRecDepth 100000 in
theorem lw_p2 : lw_okq (⟨"PotentialBench$Reader", "isRight", "(II)Z"⟩, 5) := ⟨⟨by decide +kernel, by decide +kernel⟩, tq_1 (List.mem_of_getElem? (i := 179) rfl), tq_2 (List.mem_of_getElem? (i := 111) rfl), tq_2 (List.mem_of_getElem? (i := 112) rfl)⟩
set_option maxRecDepth 100000 in
theorem lw_p3 : lw_okq (⟨"PotentialBench$Reader", "expression", "(II)I"⟩, 5) := ⟨⟨by decide +kernel, by decide +kernel⟩, tq_1 (List.mem_of_getElem? (i := 179) rfl), tq_2 (List.mem_of_getElem? (i := 115) rfl), tq_2 (List.mem_of_getElem? (i := 116) rfl)⟩
set_option maxRecDepth 100000 in
theorem lw_p4 : lw_okq (⟨"PotentialBench$Reader", "number", "(II)I"⟩, 5) := ⟨⟨by decide +kernel, by decide +kernel⟩, tq_1 (List.mem_of_getElem? (i := 179) rfl), tq_2 (List.mem_of_getElem? (i := 119) rfl), tq_2 (List.mem_of_getElem? (i := 120) rfl)⟩
set_option maxRecDepth 100000 in
theorem lw_p5 : lw_okq (⟨"PotentialBench$Body", "begin", "(II)I"⟩, 9) := ⟨⟨by decide +kernel, by decide +kernel⟩, tq_1 (List.mem_of_getElem? (i := 128) rfl), tq_2 (List.mem_of_getElem? (i := 123) rfl), tq_2 (List.mem_of_getElem? (i := 124) rfl)⟩
set_option maxRecDepth 100000 in
theorem lw_p6 : lw_okq (⟨"PotentialBench$Reader", "variable", "(I)V"⟩, 5) := ⟨⟨by decide +kernel, by decide +kernel⟩, tq_1 (List.mem_of_getElem? (i := 179) rfl), tq_2 (List.mem_of_getElem? (i := 127) rfl), tq_2 (List.mem_of_getElem? (i := 128) rfl)⟩
set_option maxRecDepth 100000 in
theorem lw_p7 : lw_okq (⟨"PotentialBench$Reader", "parts", "(IIZ)V"⟩, 5) := ⟨⟨by decide +kernel, by decide +kernel⟩, tq_1 (List.mem_of_getElem? (i := 179) rfl), tq_2 (List.mem_of_getElem? (i := 131) rfl), tq_2 (List.mem_of_getElem? (i := 132) rfl)⟩
set_option maxRecDepth 100000 in
theorem lw_p8 : lw_okq (⟨"PotentialBench$Reader", "call", "(I)V"⟩, 5) := ⟨⟨by decide +kernel, by decide +kernel⟩, tq_1 (List.mem_of_getElem? (i := 179) rfl), tq_2 (List.mem_of_getElem? (i := 135) rfl), tq_2 (List.mem_of_getElem? (i := 136) rfl)⟩
set_option maxRecDepth 100000 in
theorem lw_p9 : lw_okq (⟨"PotentialBench$Runner", "start", "(IIII)V"⟩, 12) := ⟨⟨by decide +kernel, by decide +kernel⟩, tq_1 (List.mem_of_getElem? (i := 202) rfl), tq_2 (List.mem_of_getElem? (i := 153) rfl), tq_2 (List.mem_of_getElem? (i := 154) rfl)⟩
set_option maxRecDepth 100000 in
theorem lw_p10 : lw_okq (⟨"PotentialBench$Runner", "open", "(I)V"⟩, 12) := ⟨⟨by decide +kernel, by decide +kernel⟩, tq_1 (List.mem_of_getElem? (i := 202) rfl), tq_2 (List.mem_of_getElem? (i := 157) rfl), tq_2 (List.mem_of_getElem? (i := 158) rfl)⟩
set_option maxRecDepth 100000 in
theorem lw_p11 : lw_okq (⟨"PotentialBench$Runner", "finish", "()Z"⟩, 12) := ⟨⟨by decide +kernel, by decide +kernel⟩, tq_1 (List.mem_of_getElem? (i := 202) rfl), tq_2 (List.mem_of_getElem? (i := 161) rfl), tq_2 (List.mem_of_getElem? (i := 162) rfl)⟩
set_option maxRecDepth 100000 in
theorem lw_p12 : lw_okq (⟨"PotentialBench$Runner", "reachLength", "()Z"⟩, 12) := ⟨⟨by decide +kernel, by decide +kernel⟩, tq_1 (List.mem_of_getElem? (i := 202) rfl), tq_2 (List.mem_of_getElem? (i := 165) rfl), tq_2 (List.mem_of_getElem? (i := 166) rfl)⟩
set_option maxRecDepth 100000 in
theorem lw_p13 : lw_okq (⟨"PotentialBench$Body", "kind", "(I)I"⟩, 9) := ⟨⟨by decide +kernel, by decide +kernel⟩, tq_1 (List.mem_of_getElem? (i := 128) rfl), tq_2 (List.mem_of_getElem? (i := 169) rfl), tq_2 (List.mem_of_getElem? (i := 170) rfl)⟩
set_option maxRecDepth 100000 in
theorem lw_p14 : lw_okq (⟨"PotentialBench$Body", "operand", "(I)I"⟩, 9) := ⟨⟨by decide +kernel, by decide +kernel⟩, tq_1 (List.mem_of_getElem? (i := 128) rfl), tq_2 (List.mem_of_getElem? (i := 173) rfl), tq_2 (List.mem_of_getElem? (i := 174) rfl)⟩
set_option maxRecDepth 100000 in
theorem lw_p15 : lw_okq (⟨"PotentialBench$Runner", "slot", "(I)I"⟩, 12) := ⟨⟨by decide +kernel, by decide +kernel⟩, tq_1 (List.mem_of_getElem? (i := 202) rfl), tq_2 (List.mem_of_getElem? (i := 177) rfl), tq_2 (List.mem_of_getElem? (i := 178) rfl)⟩
def lw_privs_1 : List (MethodName × Nat) := [(⟨"PotentialBench", "isFunction", "(I)Z"⟩, 9), (⟨"PotentialBench", "firstWrong", "()I"⟩, 9), (⟨"PotentialBench$Reader", "isRight", "(II)Z"⟩, 5), (⟨"PotentialBench$Reader", "expression", "(II)I"⟩, 5), (⟨"PotentialBench$Reader", "number", "(II)I"⟩, 5), (⟨"PotentialBench$Body", "begin", "(II)I"⟩, 9), (⟨"PotentialBench$Reader", "variable", "(I)V"⟩, 5), (⟨"PotentialBench$Reader", "parts", "(IIZ)V"⟩, 5), (⟨"PotentialBench$Reader", "call", "(I)V"⟩, 5), (⟨"PotentialBench$Runner", "start", "(IIII)V"⟩, 12), (⟨"PotentialBench$Runner", "open", "(I)V"⟩, 12), (⟨"PotentialBench$Runner", "finish", "()Z"⟩, 12), (⟨"PotentialBench$Runner", "reachLength", "()Z"⟩, 12), (⟨"PotentialBench$Body", "kind", "(I)I"⟩, 9), (⟨"PotentialBench$Body", "operand", "(I)I"⟩, 9), (⟨"PotentialBench$Runner", "slot", "(I)I"⟩, 12)]
theorem lw_r1 : ∀ q ∈ lw_privs_1, lw_okq q := List.forall_mem_cons.mpr ⟨lw_p0, List.forall_mem_cons.mpr ⟨lw_p1, List.forall_mem_cons.mpr ⟨lw_p2, List.forall_mem_cons.mpr ⟨lw_p3, List.forall_mem_cons.mpr ⟨lw_p4, List.forall_mem_cons.mpr ⟨lw_p5, List.forall_mem_cons.mpr ⟨lw_p6, List.forall_mem_cons.mpr ⟨lw_p7, List.forall_mem_cons.mpr ⟨lw_p8, List.forall_mem_cons.mpr ⟨lw_p9, List.forall_mem_cons.mpr ⟨lw_p10, List.forall_mem_cons.mpr ⟨lw_p11, List.forall_mem_cons.mpr ⟨lw_p12, List.forall_mem_cons.mpr ⟨lw_p13, List.forall_mem_cons.mpr ⟨lw_p14, List.forall_mem_cons.mpr ⟨lw_p15, fun _ h => absurd h List.not_mem_nil⟩⟩⟩⟩⟩⟩⟩⟩⟩⟩⟩⟩⟩⟩⟩⟩
set_option maxRecDepth 100000 in
theorem lw_p16 : lw_okq (⟨"PotentialBench$Runner", "hand", "(LPotentialBench$Body;)V"⟩, 12) := ⟨⟨by decide +kernel, by decide +kernel⟩, tq_1 (List.mem_of_getElem? (i := 202) rfl), tq_2 (List.mem_of_getElem? (i := 181) rfl), tq_2 (List.mem_of_getElem? (i := 182) rfl)⟩
set_option maxRecDepth 100000 in
theorem lw_p17 : lw_okq (⟨"PotentialBench$Body", "handed", "(II)I"⟩, 9) := ⟨⟨by decide +kernel, by decide +kernel⟩, tq_1 (List.mem_of_getElem? (i := 128) rfl), tq_2 (List.mem_of_getElem? (i := 185) rfl), tq_2 (List.mem_of_getElem? (i := 186) rfl)⟩
set_option maxRecDepth 100000 in
theorem lw_p18 : lw_okq (⟨"PotentialBench$Runner", "goInside", "(LPotentialBench$Body;I)V"⟩, 12) := ⟨⟨by decide +kernel, by decide +kernel⟩, tq_1 (List.mem_of_getElem? (i := 202) rfl), tq_2 (List.mem_of_getElem? (i := 189) rfl), tq_2 (List.mem_of_getElem? (i := 190) rfl)⟩
set_option maxRecDepth 100000 in
theorem lw_p19 : lw_okq (⟨"PotentialBench$Runner", "passOn", "()Z"⟩, 12) := ⟨⟨by decide +kernel, by decide +kernel⟩, tq_1 (List.mem_of_getElem? (i := 202) rfl), tq_2 (List.mem_of_getElem? (i := 193) rfl), tq_2 (List.mem_of_getElem? (i := 194) rfl)⟩
set_option maxRecDepth 100000 in
theorem lw_p20 : lw_okq (⟨"PotentialBench$Needs", "gather", "(I)Z"⟩, 12) := ⟨⟨by decide +kernel, by decide +kernel⟩, tq_2 (List.mem_of_getElem? (i := 8) rfl), tq_2 (List.mem_of_getElem? (i := 213) rfl), tq_2 (List.mem_of_getElem? (i := 214) rfl)⟩
set_option maxRecDepth 100000 in
theorem lw_p21 : lw_okq (⟨"PotentialBench$Needs", "goThrough", "(I)V"⟩, 12) := ⟨⟨by decide +kernel, by decide +kernel⟩, tq_2 (List.mem_of_getElem? (i := 8) rfl), tq_2 (List.mem_of_getElem? (i := 217) rfl), tq_2 (List.mem_of_getElem? (i := 218) rfl)⟩
set_option maxRecDepth 100000 in
theorem lw_p22 : lw_okq (⟨"PotentialBench$Needs", "bringsOf", "(I)I"⟩, 12) := ⟨⟨by decide +kernel, by decide +kernel⟩, tq_2 (List.mem_of_getElem? (i := 8) rfl), tq_2 (List.mem_of_getElem? (i := 224) rfl), tq_2 (List.mem_of_getElem? (i := 225) rfl)⟩
set_option maxRecDepth 100000 in
theorem lw_p23 : lw_okq (⟨"PotentialBench$Needs", "paysOf", "(I)I"⟩, 12) := ⟨⟨by decide +kernel, by decide +kernel⟩, tq_2 (List.mem_of_getElem? (i := 8) rfl), tq_2 (List.mem_of_getElem? (i := 228) rfl), tq_2 (List.mem_of_getElem? (i := 229) rfl)⟩
set_option maxRecDepth 100000 in
theorem lw_p24 : lw_okq (⟨"PotentialBench$Needs", "leavesOf", "(I)I"⟩, 12) := ⟨⟨by decide +kernel, by decide +kernel⟩, tq_2 (List.mem_of_getElem? (i := 8) rfl), tq_2 (List.mem_of_getElem? (i := 232) rfl), tq_2 (List.mem_of_getElem? (i := 233) rfl)⟩
set_option maxRecDepth 100000 in
theorem lw_p25 : lw_okq (⟨"PotentialBench$Needs", "clear", "(I)V"⟩, 12) := ⟨⟨by decide +kernel, by decide +kernel⟩, tq_2 (List.mem_of_getElem? (i := 8) rfl), tq_2 (List.mem_of_getElem? (i := 236) rfl), tq_2 (List.mem_of_getElem? (i := 237) rfl)⟩
set_option maxRecDepth 100000 in
theorem lw_p26 : lw_okq (⟨"PotentialBench$Needs", "sum", "(II)[I"⟩, 12) := ⟨⟨by decide +kernel, by decide +kernel⟩, tq_2 (List.mem_of_getElem? (i := 8) rfl), tq_3 (List.mem_of_getElem? (i := 0) rfl), tq_3 (List.mem_of_getElem? (i := 1) rfl)⟩
set_option maxRecDepth 100000 in
theorem lw_p27 : lw_okq (⟨"PotentialBench$Needs", "add", "(III)V"⟩, 12) := ⟨⟨by decide +kernel, by decide +kernel⟩, tq_2 (List.mem_of_getElem? (i := 8) rfl), tq_3 (List.mem_of_getElem? (i := 4) rfl), tq_3 (List.mem_of_getElem? (i := 5) rfl)⟩
set_option maxRecDepth 100000 in
theorem lw_p28 : lw_okq (⟨"PotentialBench$Needs", "addBranches", "(III)V"⟩, 12) := ⟨⟨by decide +kernel, by decide +kernel⟩, tq_2 (List.mem_of_getElem? (i := 8) rfl), tq_3 (List.mem_of_getElem? (i := 13) rfl), tq_3 (List.mem_of_getElem? (i := 14) rfl)⟩
set_option maxRecDepth 100000 in
theorem lw_p29 : lw_okq (⟨"PotentialBench$Body", "others", "(I)I"⟩, 9) := ⟨⟨by decide +kernel, by decide +kernel⟩, tq_1 (List.mem_of_getElem? (i := 128) rfl), tq_3 (List.mem_of_getElem? (i := 17) rfl), tq_3 (List.mem_of_getElem? (i := 18) rfl)⟩
set_option maxRecDepth 100000 in
theorem lw_p30 : lw_okq (⟨"PotentialBench$Needs", "handDown", "(I)V"⟩, 12) := ⟨⟨by decide +kernel, by decide +kernel⟩, tq_2 (List.mem_of_getElem? (i := 8) rfl), tq_3 (List.mem_of_getElem? (i := 28) rfl), tq_3 (List.mem_of_getElem? (i := 29) rfl)⟩
set_option maxRecDepth 100000 in
theorem lw_p31 : lw_okq (⟨"PotentialBench$Needs", "atLeast", "(I[I)[I"⟩, 12) := ⟨⟨by decide +kernel, by decide +kernel⟩, tq_2 (List.mem_of_getElem? (i := 8) rfl), tq_3 (List.mem_of_getElem? (i := 38) rfl), tq_3 (List.mem_of_getElem? (i := 39) rfl)⟩
def lw_privs_2 : List (MethodName × Nat) := [(⟨"PotentialBench$Runner", "hand", "(LPotentialBench$Body;)V"⟩, 12), (⟨"PotentialBench$Body", "handed", "(II)I"⟩, 9), (⟨"PotentialBench$Runner", "goInside", "(LPotentialBench$Body;I)V"⟩, 12), (⟨"PotentialBench$Runner", "passOn", "()Z"⟩, 12), (⟨"PotentialBench$Needs", "gather", "(I)Z"⟩, 12), (⟨"PotentialBench$Needs", "goThrough", "(I)V"⟩, 12), (⟨"PotentialBench$Needs", "bringsOf", "(I)I"⟩, 12), (⟨"PotentialBench$Needs", "paysOf", "(I)I"⟩, 12), (⟨"PotentialBench$Needs", "leavesOf", "(I)I"⟩, 12), (⟨"PotentialBench$Needs", "clear", "(I)V"⟩, 12), (⟨"PotentialBench$Needs", "sum", "(II)[I"⟩, 12), (⟨"PotentialBench$Needs", "add", "(III)V"⟩, 12), (⟨"PotentialBench$Needs", "addBranches", "(III)V"⟩, 12), (⟨"PotentialBench$Body", "others", "(I)I"⟩, 9), (⟨"PotentialBench$Needs", "handDown", "(I)V"⟩, 12), (⟨"PotentialBench$Needs", "atLeast", "(I[I)[I"⟩, 12)]
theorem lw_r2 : ∀ q ∈ lw_privs_2, lw_okq q := List.forall_mem_cons.mpr ⟨lw_p16, List.forall_mem_cons.mpr ⟨lw_p17, List.forall_mem_cons.mpr ⟨lw_p18, List.forall_mem_cons.mpr ⟨lw_p19, List.forall_mem_cons.mpr ⟨lw_p20, List.forall_mem_cons.mpr ⟨lw_p21, List.forall_mem_cons.mpr ⟨lw_p22, List.forall_mem_cons.mpr ⟨lw_p23, List.forall_mem_cons.mpr ⟨lw_p24, List.forall_mem_cons.mpr ⟨lw_p25, List.forall_mem_cons.mpr ⟨lw_p26, List.forall_mem_cons.mpr ⟨lw_p27, List.forall_mem_cons.mpr ⟨lw_p28, List.forall_mem_cons.mpr ⟨lw_p29, List.forall_mem_cons.mpr ⟨lw_p30, List.forall_mem_cons.mpr ⟨lw_p31, fun _ h => absurd h List.not_mem_nil⟩⟩⟩⟩⟩⟩⟩⟩⟩⟩⟩⟩⟩⟩⟩⟩
set_option maxRecDepth 100000 in
theorem lw_p32 : lw_okq (⟨"PotentialBench$Needs", "coverOthers", "(III)V"⟩, 12) := ⟨⟨by decide +kernel, by decide +kernel⟩, tq_2 (List.mem_of_getElem? (i := 8) rfl), tq_3 (List.mem_of_getElem? (i := 42) rfl), tq_3 (List.mem_of_getElem? (i := 43) rfl)⟩
set_option maxRecDepth 100000 in
theorem lw_p33 : lw_okq (⟨"PotentialBench$Needs", "needOthers", "(III)V"⟩, 12) := ⟨⟨by decide +kernel, by decide +kernel⟩, tq_2 (List.mem_of_getElem? (i := 8) rfl), tq_3 (List.mem_of_getElem? (i := 46) rfl), tq_3 (List.mem_of_getElem? (i := 47) rfl)⟩
set_option maxRecDepth 100000 in
theorem lw_p34 : lw_okq (⟨"PotentialBench$Needs", "addCall", "(III)V"⟩, 12) := ⟨⟨by decide +kernel, by decide +kernel⟩, tq_2 (List.mem_of_getElem? (i := 8) rfl), tq_3 (List.mem_of_getElem? (i := 50) rfl), tq_3 (List.mem_of_getElem? (i := 51) rfl)⟩
set_option maxRecDepth 100000 in
theorem lw_p35 : lw_okq (⟨"PotentialBench$Needs", "addThen", "(III)V"⟩, 12) := ⟨⟨by decide +kernel, by decide +kernel⟩, tq_2 (List.mem_of_getElem? (i := 8) rfl), tq_3 (List.mem_of_getElem? (i := 55) rfl), tq_3 (List.mem_of_getElem? (i := 56) rfl)⟩
set_option maxRecDepth 100000 in
theorem lw_p36 : lw_okq (⟨"PotentialBench$Needs", "addOnePart", "(III)V"⟩, 12) := ⟨⟨by decide +kernel, by decide +kernel⟩, tq_2 (List.mem_of_getElem? (i := 8) rfl), tq_3 (List.mem_of_getElem? (i := 59) rfl), tq_3 (List.mem_of_getElem? (i := 60) rfl)⟩
set_option maxRecDepth 100000 in
theorem lw_p37 : lw_okq (⟨"PotentialBench$Solver", "load", "(LPotentialBench$Needs;II)V"⟩, 14) := ⟨⟨by decide +kernel, by decide +kernel⟩, tq_1 (List.mem_of_getElem? (i := 26) rfl), tq_3 (List.mem_of_getElem? (i := 63) rfl), tq_3 (List.mem_of_getElem? (i := 64) rfl)⟩
set_option maxRecDepth 100000 in
theorem lw_p38 : lw_okq (⟨"PotentialBench$Whole", "trim", "(I)V"⟩, 3) := ⟨⟨by decide +kernel, by decide +kernel⟩, tq_1 (List.mem_of_getElem? (i := 33) rfl), tq_3 (List.mem_of_getElem? (i := 75) rfl), tq_3 (List.mem_of_getElem? (i := 76) rfl)⟩
set_option maxRecDepth 100000 in
theorem lw_p39 : lw_okq (⟨"PotentialBench$Solver", "cell", "(II)LPotentialBench$Whole;"⟩, 14) := ⟨⟨by decide +kernel, by decide +kernel⟩, tq_1 (List.mem_of_getElem? (i := 26) rfl), tq_3 (List.mem_of_getElem? (i := 79) rfl), tq_3 (List.mem_of_getElem? (i := 80) rfl)⟩
set_option maxRecDepth 100000 in
theorem lw_p40 : lw_okq (⟨"PotentialBench$Solver", "loadRow", "([I)V"⟩, 14) := ⟨⟨by decide +kernel, by decide +kernel⟩, tq_1 (List.mem_of_getElem? (i := 26) rfl), tq_3 (List.mem_of_getElem? (i := 86) rfl), tq_3 (List.mem_of_getElem? (i := 87) rfl)⟩
set_option maxRecDepth 100000 in
theorem lw_p41 : lw_okq (⟨"PotentialBench$Solver", "solve", "()Z"⟩, 14) := ⟨⟨by decide +kernel, by decide +kernel⟩, tq_1 (List.mem_of_getElem? (i := 26) rfl), tq_3 (List.mem_of_getElem? (i := 90) rfl), tq_3 (List.mem_of_getElem? (i := 91) rfl)⟩
set_option maxRecDepth 100000 in
theorem lw_p42 : lw_okq (⟨"PotentialBench$Solver", "lowestRow", "()I"⟩, 14) := ⟨⟨by decide +kernel, by decide +kernel⟩, tq_1 (List.mem_of_getElem? (i := 26) rfl), tq_3 (List.mem_of_getElem? (i := 95) rfl), tq_3 (List.mem_of_getElem? (i := 96) rfl)⟩
set_option maxRecDepth 100000 in
theorem lw_p43 : lw_okq (⟨"PotentialBench$Whole", "compareAmount", "(LPotentialBench$Whole;)I"⟩, 3) := ⟨⟨by decide +kernel, by decide +kernel⟩, tq_1 (List.mem_of_getElem? (i := 33) rfl), tq_3 (List.mem_of_getElem? (i := 110) rfl), tq_3 (List.mem_of_getElem? (i := 111) rfl)⟩
set_option maxRecDepth 100000 in
theorem lw_p44 : lw_okq (⟨"PotentialBench$Solver", "entering", "(I)I"⟩, 14) := ⟨⟨by decide +kernel, by decide +kernel⟩, tq_1 (List.mem_of_getElem? (i := 26) rfl), tq_3 (List.mem_of_getElem? (i := 114) rfl), tq_3 (List.mem_of_getElem? (i := 115) rfl)⟩
set_option maxRecDepth 100000 in
theorem lw_p45 : lw_okq (⟨"PotentialBench$Solver", "isDearer", "(III)Z"⟩, 14) := ⟨⟨by decide +kernel, by decide +kernel⟩, tq_1 (List.mem_of_getElem? (i := 26) rfl), tq_3 (List.mem_of_getElem? (i := 118) rfl), tq_3 (List.mem_of_getElem? (i := 119) rfl)⟩
set_option maxRecDepth 100000 in
theorem lw_p46 : lw_okq (⟨"PotentialBench$Solver", "compareIn", "(IIII)I"⟩, 14) := ⟨⟨by decide +kernel, by decide +kernel⟩, tq_1 (List.mem_of_getElem? (i := 26) rfl), tq_3 (List.mem_of_getElem? (i := 122) rfl), tq_3 (List.mem_of_getElem? (i := 123) rfl)⟩
set_option maxRecDepth 100000 in
theorem lw_p47 : lw_okq (⟨"PotentialBench$Whole", "room", "(I)V"⟩, 3) := ⟨⟨by decide +kernel, by decide +kernel⟩, tq_1 (List.mem_of_getElem? (i := 33) rfl), tq_3 (List.mem_of_getElem? (i := 139) rfl), tq_3 (List.mem_of_getElem? (i := 140) rfl)⟩
def lw_privs_3 : List (MethodName × Nat) := [(⟨"PotentialBench$Needs", "coverOthers", "(III)V"⟩, 12), (⟨"PotentialBench$Needs", "needOthers", "(III)V"⟩, 12), (⟨"PotentialBench$Needs", "addCall", "(III)V"⟩, 12), (⟨"PotentialBench$Needs", "addThen", "(III)V"⟩, 12), (⟨"PotentialBench$Needs", "addOnePart", "(III)V"⟩, 12), (⟨"PotentialBench$Solver", "load", "(LPotentialBench$Needs;II)V"⟩, 14), (⟨"PotentialBench$Whole", "trim", "(I)V"⟩, 3), (⟨"PotentialBench$Solver", "cell", "(II)LPotentialBench$Whole;"⟩, 14), (⟨"PotentialBench$Solver", "loadRow", "([I)V"⟩, 14), (⟨"PotentialBench$Solver", "solve", "()Z"⟩, 14), (⟨"PotentialBench$Solver", "lowestRow", "()I"⟩, 14), (⟨"PotentialBench$Whole", "compareAmount", "(LPotentialBench$Whole;)I"⟩, 3), (⟨"PotentialBench$Solver", "entering", "(I)I"⟩, 14), (⟨"PotentialBench$Solver", "isDearer", "(III)Z"⟩, 14), (⟨"PotentialBench$Solver", "compareIn", "(IIII)I"⟩, 14), (⟨"PotentialBench$Whole", "room", "(I)V"⟩, 3)]
theorem lw_r3 : ∀ q ∈ lw_privs_3, lw_okq q := List.forall_mem_cons.mpr ⟨lw_p32, List.forall_mem_cons.mpr ⟨lw_p33, List.forall_mem_cons.mpr ⟨lw_p34, List.forall_mem_cons.mpr ⟨lw_p35, List.forall_mem_cons.mpr ⟨lw_p36, List.forall_mem_cons.mpr ⟨lw_p37, List.forall_mem_cons.mpr ⟨lw_p38, List.forall_mem_cons.mpr ⟨lw_p39, List.forall_mem_cons.mpr ⟨lw_p40, List.forall_mem_cons.mpr ⟨lw_p41, List.forall_mem_cons.mpr ⟨lw_p42, List.forall_mem_cons.mpr ⟨lw_p43, List.forall_mem_cons.mpr ⟨lw_p44, List.forall_mem_cons.mpr ⟨lw_p45, List.forall_mem_cons.mpr ⟨lw_p46, List.forall_mem_cons.mpr ⟨lw_p47, fun _ h => absurd h List.not_mem_nil⟩⟩⟩⟩⟩⟩⟩⟩⟩⟩⟩⟩⟩⟩⟩⟩
set_option maxRecDepth 100000 in
theorem lw_p48 : lw_okq (⟨"PotentialBench$Solver", "exchange", "(II)V"⟩, 14) := ⟨⟨by decide +kernel, by decide +kernel⟩, tq_1 (List.mem_of_getElem? (i := 26) rfl), tq_3 (List.mem_of_getElem? (i := 157) rfl), tq_3 (List.mem_of_getElem? (i := 158) rfl)⟩
set_option maxRecDepth 100000 in
theorem lw_p49 : lw_okq (⟨"PotentialBench$Solver", "put", "(LPotentialBench$Whole;LPotentialBench$Whole;LPotentialBench$Whole;)V"⟩, 14) := ⟨⟨by decide +kernel, by decide +kernel⟩, tq_1 (List.mem_of_getElem? (i := 26) rfl), tq_3 (List.mem_of_getElem? (i := 166) rfl), tq_3 (List.mem_of_getElem? (i := 167) rfl)⟩
set_option maxRecDepth 100000 in
theorem lw_p50 : lw_okq (⟨"PotentialBench$Whole", "addAmount", "(LPotentialBench$Whole;)V"⟩, 3) := ⟨⟨by decide +kernel, by decide +kernel⟩, tq_1 (List.mem_of_getElem? (i := 33) rfl), tq_3 (List.mem_of_getElem? (i := 179) rfl), tq_3 (List.mem_of_getElem? (i := 180) rfl)⟩
set_option maxRecDepth 100000 in
theorem lw_p51 : lw_okq (⟨"PotentialBench$Whole", "digit", "(I)I"⟩, 3) := ⟨⟨by decide +kernel, by decide +kernel⟩, tq_1 (List.mem_of_getElem? (i := 33) rfl), tq_3 (List.mem_of_getElem? (i := 183) rfl), tq_3 (List.mem_of_getElem? (i := 184) rfl)⟩
set_option maxRecDepth 100000 in
theorem lw_p52 : lw_okq (⟨"PotentialBench$Whole", "differ", "(LPotentialBench$Whole;LPotentialBench$Whole;)V"⟩, 3) := ⟨⟨by decide +kernel, by decide +kernel⟩, tq_1 (List.mem_of_getElem? (i := 33) rfl), tq_3 (List.mem_of_getElem? (i := 187) rfl), tq_3 (List.mem_of_getElem? (i := 188) rfl)⟩
set_option maxRecDepth 100000 in
theorem lw_p53 : lw_okq (⟨"PotentialBench$Whole", "divideByDigit", "(I)V"⟩, 3) := ⟨⟨by decide +kernel, by decide +kernel⟩, tq_1 (List.mem_of_getElem? (i := 33) rfl), tq_3 (List.mem_of_getElem? (i := 196) rfl), tq_3 (List.mem_of_getElem? (i := 197) rfl)⟩
set_option maxRecDepth 100000 in
theorem lw_p54 : lw_okq (⟨"PotentialBench$Whole", "bitsFree", "()I"⟩, 3) := ⟨⟨by decide +kernel, by decide +kernel⟩, tq_1 (List.mem_of_getElem? (i := 33) rfl), tq_3 (List.mem_of_getElem? (i := 200) rfl), tq_3 (List.mem_of_getElem? (i := 201) rfl)⟩
set_option maxRecDepth 100000 in
theorem lw_p55 : lw_okq (⟨"PotentialBench$Whole", "shift", "(LPotentialBench$Whole;I)V"⟩, 3) := ⟨⟨by decide +kernel, by decide +kernel⟩, tq_1 (List.mem_of_getElem? (i := 33) rfl), tq_3 (List.mem_of_getElem? (i := 205) rfl), tq_3 (List.mem_of_getElem? (i := 206) rfl)⟩
set_option maxRecDepth 100000 in
theorem lw_p56 : lw_okq (⟨"PotentialBench$Whole", "guess", "(LPotentialBench$Whole;II)J"⟩, 3) := ⟨⟨by decide +kernel, by decide +kernel⟩, tq_1 (List.mem_of_getElem? (i := 33) rfl), tq_3 (List.mem_of_getElem? (i := 209) rfl), tq_3 (List.mem_of_getElem? (i := 210) rfl)⟩
set_option maxRecDepth 100000 in
theorem lw_p57 : lw_okq (⟨"PotentialBench$Whole", "takeOff", "(LPotentialBench$Whole;IIJ)J"⟩, 3) := ⟨⟨by decide +kernel, by decide +kernel⟩, tq_1 (List.mem_of_getElem? (i := 33) rfl), tq_3 (List.mem_of_getElem? (i := 213) rfl), tq_3 (List.mem_of_getElem? (i := 214) rfl)⟩
set_option maxRecDepth 100000 in
theorem lw_p58 : lw_okq (⟨"PotentialBench$Solver", "swapUnknowns", "(II)V"⟩, 14) := ⟨⟨by decide +kernel, by decide +kernel⟩, tq_1 (List.mem_of_getElem? (i := 26) rfl), tq_3 (List.mem_of_getElem? (i := 219) rfl), tq_3 (List.mem_of_getElem? (i := 220) rfl)⟩
set_option maxRecDepth 100000 in
theorem lw_p59 : lw_okq (⟨"PotentialBench$Best", "take", "(LPotentialBench$Solver;)V"⟩, 8) := ⟨⟨by decide +kernel, by decide +kernel⟩, tq_1 (List.mem_of_getElem? (i := 95) rfl), tq_3 (List.mem_of_getElem? (i := 223) rfl), tq_3 (List.mem_of_getElem? (i := 224) rfl)⟩
set_option maxRecDepth 100000 in
theorem lw_p60 : lw_okq (⟨"PotentialBench$Solver", "tell", "(ILPotentialBench$Whole;)V"⟩, 14) := ⟨⟨by decide +kernel, by decide +kernel⟩, tq_1 (List.mem_of_getElem? (i := 26) rfl), tq_3 (List.mem_of_getElem? (i := 228) rfl), tq_3 (List.mem_of_getElem? (i := 229) rfl)⟩
set_option maxRecDepth 100000 in
theorem lw_p61 : lw_okq (⟨"PotentialBench$Best", "has", "(I)Z"⟩, 8) := ⟨⟨by decide +kernel, by decide +kernel⟩, tq_1 (List.mem_of_getElem? (i := 95) rfl), tq_4 (List.mem_of_getElem? (i := 0) rfl), tq_4 (List.mem_of_getElem? (i := 1) rfl)⟩
set_option maxRecDepth 100000 in
theorem lw_p62 : lw_okq (⟨"PotentialBench$Best", "doubled", "(II)J"⟩, 8) := ⟨⟨by decide +kernel, by decide +kernel⟩, tq_1 (List.mem_of_getElem? (i := 95) rfl), tq_4 (List.mem_of_getElem? (i := 5) rfl), tq_4 (List.mem_of_getElem? (i := 6) rfl)⟩
set_option maxRecDepth 100000 in
theorem lw_p63 : lw_okq (⟨"PotentialBench$Best", "reaches", "(IIIJ)Z"⟩, 8) := ⟨⟨by decide +kernel, by decide +kernel⟩, tq_1 (List.mem_of_getElem? (i := 95) rfl), tq_4 (List.mem_of_getElem? (i := 20) rfl), tq_4 (List.mem_of_getElem? (i := 21) rfl)⟩
def lw_privs_4 : List (MethodName × Nat) := [(⟨"PotentialBench$Solver", "exchange", "(II)V"⟩, 14), (⟨"PotentialBench$Solver", "put", "(LPotentialBench$Whole;LPotentialBench$Whole;LPotentialBench$Whole;)V"⟩, 14), (⟨"PotentialBench$Whole", "addAmount", "(LPotentialBench$Whole;)V"⟩, 3), (⟨"PotentialBench$Whole", "digit", "(I)I"⟩, 3), (⟨"PotentialBench$Whole", "differ", "(LPotentialBench$Whole;LPotentialBench$Whole;)V"⟩, 3), (⟨"PotentialBench$Whole", "divideByDigit", "(I)V"⟩, 3), (⟨"PotentialBench$Whole", "bitsFree", "()I"⟩, 3), (⟨"PotentialBench$Whole", "shift", "(LPotentialBench$Whole;I)V"⟩, 3), (⟨"PotentialBench$Whole", "guess", "(LPotentialBench$Whole;II)J"⟩, 3), (⟨"PotentialBench$Whole", "takeOff", "(LPotentialBench$Whole;IIJ)J"⟩, 3), (⟨"PotentialBench$Solver", "swapUnknowns", "(II)V"⟩, 14), (⟨"PotentialBench$Best", "take", "(LPotentialBench$Solver;)V"⟩, 8), (⟨"PotentialBench$Solver", "tell", "(ILPotentialBench$Whole;)V"⟩, 14), (⟨"PotentialBench$Best", "has", "(I)Z"⟩, 8), (⟨"PotentialBench$Best", "doubled", "(II)J"⟩, 8), (⟨"PotentialBench$Best", "reaches", "(IIIJ)Z"⟩, 8)]
theorem lw_r4 : ∀ q ∈ lw_privs_4, lw_okq q := List.forall_mem_cons.mpr ⟨lw_p48, List.forall_mem_cons.mpr ⟨lw_p49, List.forall_mem_cons.mpr ⟨lw_p50, List.forall_mem_cons.mpr ⟨lw_p51, List.forall_mem_cons.mpr ⟨lw_p52, List.forall_mem_cons.mpr ⟨lw_p53, List.forall_mem_cons.mpr ⟨lw_p54, List.forall_mem_cons.mpr ⟨lw_p55, List.forall_mem_cons.mpr ⟨lw_p56, List.forall_mem_cons.mpr ⟨lw_p57, List.forall_mem_cons.mpr ⟨lw_p58, List.forall_mem_cons.mpr ⟨lw_p59, List.forall_mem_cons.mpr ⟨lw_p60, List.forall_mem_cons.mpr ⟨lw_p61, List.forall_mem_cons.mpr ⟨lw_p62, List.forall_mem_cons.mpr ⟨lw_p63, fun _ h => absurd h List.not_mem_nil⟩⟩⟩⟩⟩⟩⟩⟩⟩⟩⟩⟩⟩⟩⟩⟩
set_option maxRecDepth 100000 in
theorem lw_p64 : lw_okq (⟨"PotentialBench$Best", "addTimes", "(II)V"⟩, 8) := ⟨⟨by decide +kernel, by decide +kernel⟩, tq_1 (List.mem_of_getElem? (i := 95) rfl), tq_4 (List.mem_of_getElem? (i := 24) rfl), tq_4 (List.mem_of_getElem? (i := 25) rfl)⟩
set_option maxRecDepth 100000 in
theorem lw_p65 : lw_okq (⟨"PotentialBenchModel", "isFunction", "(I)Z"⟩, 61) := ⟨⟨by decide +kernel, by decide +kernel⟩, tq_4 (List.mem_of_getElem? (i := 30) rfl), tq_4 (List.mem_of_getElem? (i := 232) rfl), tq_4 (List.mem_of_getElem? (i := 233) rfl)⟩
set_option maxRecDepth 100000 in
theorem lw_p66 : lw_okq (⟨"PotentialBenchModel", "wrong", "(I)I"⟩, 61) := ⟨⟨by decide +kernel, by decide +kernel⟩, tq_4 (List.mem_of_getElem? (i := 30) rfl), tq_5 (List.mem_of_getElem? (i := 4) rfl), tq_5 (List.mem_of_getElem? (i := 5) rfl)⟩
set_option maxRecDepth 100000 in
theorem lw_p67 : lw_okq (⟨"PotentialBenchModel", "wrongHead", "(III)I"⟩, 61) := ⟨⟨by decide +kernel, by decide +kernel⟩, tq_4 (List.mem_of_getElem? (i := 30) rfl), tq_5 (List.mem_of_getElem? (i := 8) rfl), tq_5 (List.mem_of_getElem? (i := 9) rfl)⟩
set_option maxRecDepth 100000 in
theorem lw_p68 : lw_okq (⟨"PotentialBenchModel", "headOf", "(II)I"⟩, 61) := ⟨⟨by decide +kernel, by decide +kernel⟩, tq_4 (List.mem_of_getElem? (i := 30) rfl), tq_5 (List.mem_of_getElem? (i := 12) rfl), tq_5 (List.mem_of_getElem? (i := 13) rfl)⟩
set_option maxRecDepth 100000 in
theorem lw_p69 : lw_okq (⟨"PotentialBenchModel", "close", "(II)Z"⟩, 61) := ⟨⟨by decide +kernel, by decide +kernel⟩, tq_4 (List.mem_of_getElem? (i := 30) rfl), tq_5 (List.mem_of_getElem? (i := 16) rfl), tq_5 (List.mem_of_getElem? (i := 17) rfl)⟩
set_option maxRecDepth 100000 in
theorem lw_p70 : lw_okq (⟨"PotentialBenchModel", "knownBehind", "(I)I"⟩, 61) := ⟨⟨by decide +kernel, by decide +kernel⟩, tq_4 (List.mem_of_getElem? (i := 30) rfl), tq_5 (List.mem_of_getElem? (i := 23) rfl), tq_5 (List.mem_of_getElem? (i := 24) rfl)⟩
set_option maxRecDepth 100000 in
theorem lw_p71 : lw_okq (⟨"PotentialBenchModel", "isRight", "()Z"⟩, 61) := ⟨⟨by decide +kernel, by decide +kernel⟩, tq_4 (List.mem_of_getElem? (i := 30) rfl), tq_5 (List.mem_of_getElem? (i := 35) rfl), tq_5 (List.mem_of_getElem? (i := 36) rfl)⟩
set_option maxRecDepth 100000 in
theorem lw_p72 : lw_okq (⟨"PotentialBenchModel", "enter", "(II)V"⟩, 61) := ⟨⟨by decide +kernel, by decide +kernel⟩, tq_4 (List.mem_of_getElem? (i := 30) rfl), tq_5 (List.mem_of_getElem? (i := 39) rfl), tq_5 (List.mem_of_getElem? (i := 40) rfl)⟩
set_option maxRecDepth 100000 in
theorem lw_p73 : lw_okq (⟨"PotentialBenchModel", "beginOne", "()V"⟩, 61) := ⟨⟨by decide +kernel, by decide +kernel⟩, tq_4 (List.mem_of_getElem? (i := 30) rfl), tq_5 (List.mem_of_getElem? (i := 43) rfl), tq_5 (List.mem_of_getElem? (i := 44) rfl)⟩
set_option maxRecDepth 100000 in
theorem lw_p74 : lw_okq (⟨"PotentialBenchModel", "wait", "(II)V"⟩, 61) := ⟨⟨by decide +kernel, by decide +kernel⟩, tq_4 (List.mem_of_getElem? (i := 30) rfl), tq_5 (List.mem_of_getElem? (i := 47) rfl), tq_5 (List.mem_of_getElem? (i := 48) rfl)⟩
set_option maxRecDepth 100000 in
theorem lw_p75 : lw_okq (⟨"PotentialBenchModel", "giveOn", "()V"⟩, 61) := ⟨⟨by decide +kernel, by decide +kernel⟩, tq_4 (List.mem_of_getElem? (i := 30) rfl), tq_5 (List.mem_of_getElem? (i := 51) rfl), tq_5 (List.mem_of_getElem? (i := 52) rfl)⟩
set_option maxRecDepth 100000 in
theorem lw_p76 : lw_okq (⟨"PotentialBenchModel", "needBody", "(I)V"⟩, 61) := ⟨⟨by decide +kernel, by decide +kernel⟩, tq_4 (List.mem_of_getElem? (i := 30) rfl), tq_5 (List.mem_of_getElem? (i := 71) rfl), tq_5 (List.mem_of_getElem? (i := 72) rfl)⟩
set_option maxRecDepth 100000 in
theorem lw_p77 : lw_okq (⟨"PotentialBenchModel", "clear", "(I)V"⟩, 61) := ⟨⟨by decide +kernel, by decide +kernel⟩, tq_4 (List.mem_of_getElem? (i := 30) rfl), tq_5 (List.mem_of_getElem? (i := 78) rfl), tq_5 (List.mem_of_getElem? (i := 79) rfl)⟩
set_option maxRecDepth 100000 in
theorem lw_p78 : lw_okq (⟨"PotentialBenchModel", "unknown", "(II)I"⟩, 61) := ⟨⟨by decide +kernel, by decide +kernel⟩, tq_4 (List.mem_of_getElem? (i := 30) rfl), tq_5 (List.mem_of_getElem? (i := 82) rfl), tq_5 (List.mem_of_getElem? (i := 83) rfl)⟩
set_option maxRecDepth 100000 in
theorem lw_p79 : lw_okq (⟨"PotentialBenchModel", "needOf", "(III)I"⟩, 61) := ⟨⟨by decide +kernel, by decide +kernel⟩, tq_4 (List.mem_of_getElem? (i := 30) rfl), tq_5 (List.mem_of_getElem? (i := 86) rfl), tq_5 (List.mem_of_getElem? (i := 87) rfl)⟩
def lw_privs_5 : List (MethodName × Nat) := [(⟨"PotentialBench$Best", "addTimes", "(II)V"⟩, 8), (⟨"PotentialBenchModel", "isFunction", "(I)Z"⟩, 61), (⟨"PotentialBenchModel", "wrong", "(I)I"⟩, 61), (⟨"PotentialBenchModel", "wrongHead", "(III)I"⟩, 61), (⟨"PotentialBenchModel", "headOf", "(II)I"⟩, 61), (⟨"PotentialBenchModel", "close", "(II)Z"⟩, 61), (⟨"PotentialBenchModel", "knownBehind", "(I)I"⟩, 61), (⟨"PotentialBenchModel", "isRight", "()Z"⟩, 61), (⟨"PotentialBenchModel", "enter", "(II)V"⟩, 61), (⟨"PotentialBenchModel", "beginOne", "()V"⟩, 61), (⟨"PotentialBenchModel", "wait", "(II)V"⟩, 61), (⟨"PotentialBenchModel", "giveOn", "()V"⟩, 61), (⟨"PotentialBenchModel", "needBody", "(I)V"⟩, 61), (⟨"PotentialBenchModel", "clear", "(I)V"⟩, 61), (⟨"PotentialBenchModel", "unknown", "(II)I"⟩, 61), (⟨"PotentialBenchModel", "needOf", "(III)I"⟩, 61)]
theorem lw_r5 : ∀ q ∈ lw_privs_5, lw_okq q := List.forall_mem_cons.mpr ⟨lw_p64, List.forall_mem_cons.mpr ⟨lw_p65, List.forall_mem_cons.mpr ⟨lw_p66, List.forall_mem_cons.mpr ⟨lw_p67, List.forall_mem_cons.mpr ⟨lw_p68, List.forall_mem_cons.mpr ⟨lw_p69, List.forall_mem_cons.mpr ⟨lw_p70, List.forall_mem_cons.mpr ⟨lw_p71, List.forall_mem_cons.mpr ⟨lw_p72, List.forall_mem_cons.mpr ⟨lw_p73, List.forall_mem_cons.mpr ⟨lw_p74, List.forall_mem_cons.mpr ⟨lw_p75, List.forall_mem_cons.mpr ⟨lw_p76, List.forall_mem_cons.mpr ⟨lw_p77, List.forall_mem_cons.mpr ⟨lw_p78, List.forall_mem_cons.mpr ⟨lw_p79, fun _ h => absurd h List.not_mem_nil⟩⟩⟩⟩⟩⟩⟩⟩⟩⟩⟩⟩⟩⟩⟩⟩
set_option maxRecDepth 100000 in
theorem lw_p80 : lw_okq (⟨"PotentialBenchModel", "openNeed", "(IIII)V"⟩, 61) := ⟨⟨by decide +kernel, by decide +kernel⟩, tq_4 (List.mem_of_getElem? (i := 30) rfl), tq_5 (List.mem_of_getElem? (i := 90) rfl), tq_5 (List.mem_of_getElem? (i := 91) rfl)⟩
set_option maxRecDepth 100000 in
theorem lw_p81 : lw_okq (⟨"PotentialBenchModel", "newBlock", "(II)I"⟩, 61) := ⟨⟨by decide +kernel, by decide +kernel⟩, tq_4 (List.mem_of_getElem? (i := 30) rfl), tq_5 (List.mem_of_getElem? (i := 94) rfl), tq_5 (List.mem_of_getElem? (i := 95) rfl)⟩
set_option maxRecDepth 100000 in
theorem lw_p82 : lw_okq (⟨"PotentialBenchModel", "copy", "(II)V"⟩, 61) := ⟨⟨by decide +kernel, by decide +kernel⟩, tq_4 (List.mem_of_getElem? (i := 30) rfl), tq_5 (List.mem_of_getElem? (i := 98) rfl), tq_5 (List.mem_of_getElem? (i := 99) rfl)⟩
set_option maxRecDepth 100000 in
theorem lw_p83 : lw_okq (⟨"PotentialBenchModel", "firstOf", "(IIII)V"⟩, 61) := ⟨⟨by decide +kernel, by decide +kernel⟩, tq_4 (List.mem_of_getElem? (i := 30) rfl), tq_5 (List.mem_of_getElem? (i := 102) rfl), tq_5 (List.mem_of_getElem? (i := 103) rfl)⟩
set_option maxRecDepth 100000 in
theorem lw_p84 : lw_okq (⟨"PotentialBenchModel", "add", "(II)V"⟩, 61) := ⟨⟨by decide +kernel, by decide +kernel⟩, tq_4 (List.mem_of_getElem? (i := 30) rfl), tq_5 (List.mem_of_getElem? (i := 106) rfl), tq_5 (List.mem_of_getElem? (i := 107) rfl)⟩
set_option maxRecDepth 100000 in
theorem lw_p85 : lw_okq (⟨"PotentialBenchModel", "needCall", "(III)V"⟩, 61) := ⟨⟨by decide +kernel, by decide +kernel⟩, tq_4 (List.mem_of_getElem? (i := 30) rfl), tq_5 (List.mem_of_getElem? (i := 110) rfl), tq_5 (List.mem_of_getElem? (i := 111) rfl)⟩
set_option maxRecDepth 100000 in
theorem lw_p86 : lw_okq (⟨"PotentialBenchModel", "newUnknown", "()I"⟩, 61) := ⟨⟨by decide +kernel, by decide +kernel⟩, tq_4 (List.mem_of_getElem? (i := 30) rfl), tq_5 (List.mem_of_getElem? (i := 114) rfl), tq_5 (List.mem_of_getElem? (i := 115) rfl)⟩
set_option maxRecDepth 100000 in
theorem lw_p87 : lw_okq (⟨"PotentialBenchModel", "newCondition", "()I"⟩, 61) := ⟨⟨by decide +kernel, by decide +kernel⟩, tq_4 (List.mem_of_getElem? (i := 30) rfl), tq_5 (List.mem_of_getElem? (i := 118) rfl), tq_5 (List.mem_of_getElem? (i := 119) rfl)⟩
set_option maxRecDepth 100000 in
theorem lw_p88 : lw_okq (⟨"PotentialBenchModel", "take", "(II)V"⟩, 61) := ⟨⟨by decide +kernel, by decide +kernel⟩, tq_4 (List.mem_of_getElem? (i := 30) rfl), tq_5 (List.mem_of_getElem? (i := 122) rfl), tq_5 (List.mem_of_getElem? (i := 123) rfl)⟩
set_option maxRecDepth 100000 in
theorem lw_p89 : lw_okq (⟨"PotentialBenchModel", "atLeast", "(II)V"⟩, 61) := ⟨⟨by decide +kernel, by decide +kernel⟩, tq_4 (List.mem_of_getElem? (i := 30) rfl), tq_5 (List.mem_of_getElem? (i := 126) rfl), tq_5 (List.mem_of_getElem? (i := 127) rfl)⟩
set_option maxRecDepth 100000 in
theorem lw_p90 : lw_okq (⟨"PotentialBenchModel", "endNeed", "()V"⟩, 61) := ⟨⟨by decide +kernel, by decide +kernel⟩, tq_4 (List.mem_of_getElem? (i := 30) rfl), tq_5 (List.mem_of_getElem? (i := 130) rfl), tq_5 (List.mem_of_getElem? (i := 131) rfl)⟩
set_option maxRecDepth 100000 in
theorem lw_p91 : lw_okq (⟨"PotentialBenchModel", "secondOf", "(IIII)V"⟩, 61) := ⟨⟨by decide +kernel, by decide +kernel⟩, tq_4 (List.mem_of_getElem? (i := 30) rfl), tq_5 (List.mem_of_getElem? (i := 134) rfl), tq_5 (List.mem_of_getElem? (i := 135) rfl)⟩
set_option maxRecDepth 100000 in
theorem lw_p92 : lw_okq (⟨"PotentialBenchModel", "keepAll", "(II)V"⟩, 61) := ⟨⟨by decide +kernel, by decide +kernel⟩, tq_4 (List.mem_of_getElem? (i := 30) rfl), tq_5 (List.mem_of_getElem? (i := 138) rfl), tq_5 (List.mem_of_getElem? (i := 139) rfl)⟩
set_option maxRecDepth 100000 in
theorem lw_p93 : lw_okq (⟨"PotentialBenchModel", "thirdOf", "(IIII)V"⟩, 61) := ⟨⟨by decide +kernel, by decide +kernel⟩, tq_4 (List.mem_of_getElem? (i := 30) rfl), tq_5 (List.mem_of_getElem? (i := 142) rfl), tq_5 (List.mem_of_getElem? (i := 143) rfl)⟩
set_option maxRecDepth 100000 in
theorem lw_p94 : lw_okq (⟨"PotentialBenchModel", "needMatch", "(IIIIII)V"⟩, 61) := ⟨⟨by decide +kernel, by decide +kernel⟩, tq_4 (List.mem_of_getElem? (i := 30) rfl), tq_5 (List.mem_of_getElem? (i := 146) rfl), tq_5 (List.mem_of_getElem? (i := 147) rfl)⟩
set_option maxRecDepth 100000 in
theorem lw_p95 : lw_okq (⟨"PotentialBenchModel", "isNamed", "(IIII)Z"⟩, 61) := ⟨⟨by decide +kernel, by decide +kernel⟩, tq_4 (List.mem_of_getElem? (i := 30) rfl), tq_5 (List.mem_of_getElem? (i := 150) rfl), tq_5 (List.mem_of_getElem? (i := 151) rfl)⟩
def lw_privs_6 : List (MethodName × Nat) := [(⟨"PotentialBenchModel", "openNeed", "(IIII)V"⟩, 61), (⟨"PotentialBenchModel", "newBlock", "(II)I"⟩, 61), (⟨"PotentialBenchModel", "copy", "(II)V"⟩, 61), (⟨"PotentialBenchModel", "firstOf", "(IIII)V"⟩, 61), (⟨"PotentialBenchModel", "add", "(II)V"⟩, 61), (⟨"PotentialBenchModel", "needCall", "(III)V"⟩, 61), (⟨"PotentialBenchModel", "newUnknown", "()I"⟩, 61), (⟨"PotentialBenchModel", "newCondition", "()I"⟩, 61), (⟨"PotentialBenchModel", "take", "(II)V"⟩, 61), (⟨"PotentialBenchModel", "atLeast", "(II)V"⟩, 61), (⟨"PotentialBenchModel", "endNeed", "()V"⟩, 61), (⟨"PotentialBenchModel", "secondOf", "(IIII)V"⟩, 61), (⟨"PotentialBenchModel", "keepAll", "(II)V"⟩, 61), (⟨"PotentialBenchModel", "thirdOf", "(IIII)V"⟩, 61), (⟨"PotentialBenchModel", "needMatch", "(IIIIII)V"⟩, 61), (⟨"PotentialBenchModel", "isNamed", "(IIII)Z"⟩, 61)]
theorem lw_r6 : ∀ q ∈ lw_privs_6, lw_okq q := List.forall_mem_cons.mpr ⟨lw_p80, List.forall_mem_cons.mpr ⟨lw_p81, List.forall_mem_cons.mpr ⟨lw_p82, List.forall_mem_cons.mpr ⟨lw_p83, List.forall_mem_cons.mpr ⟨lw_p84, List.forall_mem_cons.mpr ⟨lw_p85, List.forall_mem_cons.mpr ⟨lw_p86, List.forall_mem_cons.mpr ⟨lw_p87, List.forall_mem_cons.mpr ⟨lw_p88, List.forall_mem_cons.mpr ⟨lw_p89, List.forall_mem_cons.mpr ⟨lw_p90, List.forall_mem_cons.mpr ⟨lw_p91, List.forall_mem_cons.mpr ⟨lw_p92, List.forall_mem_cons.mpr ⟨lw_p93, List.forall_mem_cons.mpr ⟨lw_p94, List.forall_mem_cons.mpr ⟨lw_p95, fun _ h => absurd h List.not_mem_nil⟩⟩⟩⟩⟩⟩⟩⟩⟩⟩⟩⟩⟩⟩⟩⟩
set_option maxRecDepth 100000 in
theorem lw_p96 : lw_okq (⟨"PotentialBenchModel", "lay", "(I)V"⟩, 61) := ⟨⟨by decide +kernel, by decide +kernel⟩, tq_4 (List.mem_of_getElem? (i := 30) rfl), tq_5 (List.mem_of_getElem? (i := 154) rfl), tq_5 (List.mem_of_getElem? (i := 155) rfl)⟩
set_option maxRecDepth 100000 in
theorem lw_p97 : lw_okq (⟨"PotentialBenchModel", "put", "(IJ)V"⟩, 61) := ⟨⟨by decide +kernel, by decide +kernel⟩, tq_4 (List.mem_of_getElem? (i := 30) rfl), tq_5 (List.mem_of_getElem? (i := 158) rfl), tq_5 (List.mem_of_getElem? (i := 159) rfl)⟩
set_option maxRecDepth 100000 in
theorem lw_p98 : lw_okq (⟨"PotentialBenchModel", "reach", "()Z"⟩, 61) := ⟨⟨by decide +kernel, by decide +kernel⟩, tq_4 (List.mem_of_getElem? (i := 30) rfl), tq_5 (List.mem_of_getElem? (i := 166) rfl), tq_5 (List.mem_of_getElem? (i := 167) rfl)⟩
set_option maxRecDepth 100000 in
theorem lw_p99 : lw_okq (⟨"PotentialBenchModel", "exchange", "(II)V"⟩, 61) := ⟨⟨by decide +kernel, by decide +kernel⟩, tq_4 (List.mem_of_getElem? (i := 30) rfl), tq_5 (List.mem_of_getElem? (i := 170) rfl), tq_5 (List.mem_of_getElem? (i := 171) rfl)⟩
set_option maxRecDepth 100000 in
theorem lw_p100 : lw_okq (⟨"PotentialBenchModel", "signOf", "(I)I"⟩, 61) := ⟨⟨by decide +kernel, by decide +kernel⟩, tq_4 (List.mem_of_getElem? (i := 30) rfl), tq_5 (List.mem_of_getElem? (i := 174) rfl), tq_5 (List.mem_of_getElem? (i := 175) rfl)⟩
set_option maxRecDepth 100000 in
theorem lw_p101 : lw_okq (⟨"PotentialBenchModel", "rowBy", "(IIIZ)V"⟩, 61) := ⟨⟨by decide +kernel, by decide +kernel⟩, tq_4 (List.mem_of_getElem? (i := 30) rfl), tq_5 (List.mem_of_getElem? (i := 178) rfl), tq_5 (List.mem_of_getElem? (i := 179) rfl)⟩
set_option maxRecDepth 100000 in
theorem lw_p102 : lw_okq (⟨"PotentialBenchModel", "turn", "(I)V"⟩, 61) := ⟨⟨by decide +kernel, by decide +kernel⟩, tq_4 (List.mem_of_getElem? (i := 30) rfl), tq_5 (List.mem_of_getElem? (i := 182) rfl), tq_5 (List.mem_of_getElem? (i := 183) rfl)⟩
set_option maxRecDepth 100000 in
theorem lw_p103 : lw_okq (⟨"PotentialBenchModel", "times", "(II[I)I"⟩, 61) := ⟨⟨by decide +kernel, by decide +kernel⟩, tq_4 (List.mem_of_getElem? (i := 30) rfl), tq_5 (List.mem_of_getElem? (i := 190) rfl), tq_5 (List.mem_of_getElem? (i := 191) rfl)⟩
set_option maxRecDepth 100000 in
theorem lw_p104 : lw_okq (⟨"PotentialBenchModel", "join", "()V"⟩, 61) := ⟨⟨by decide +kernel, by decide +kernel⟩, tq_4 (List.mem_of_getElem? (i := 30) rfl), tq_5 (List.mem_of_getElem? (i := 197) rfl), tq_5 (List.mem_of_getElem? (i := 198) rfl)⟩
set_option maxRecDepth 100000 in
theorem lw_p105 : lw_okq (⟨"PotentialBenchModel", "addRows", "()V"⟩, 61) := ⟨⟨by decide +kernel, by decide +kernel⟩, tq_4 (List.mem_of_getElem? (i := 30) rfl), tq_5 (List.mem_of_getElem? (i := 201) rfl), tq_5 (List.mem_of_getElem? (i := 202) rfl)⟩
set_option maxRecDepth 100000 in
theorem lw_p106 : lw_okq (⟨"PotentialBenchModel", "shiftInto", "(III)V"⟩, 61) := ⟨⟨by decide +kernel, by decide +kernel⟩, tq_4 (List.mem_of_getElem? (i := 30) rfl), tq_5 (List.mem_of_getElem? (i := 217) rfl), tq_5 (List.mem_of_getElem? (i := 218) rfl)⟩
set_option maxRecDepth 100000 in
theorem lw_p107 : lw_okq (⟨"PotentialBenchModel", "raise", "(I)V"⟩, 61) := ⟨⟨by decide +kernel, by decide +kernel⟩, tq_4 (List.mem_of_getElem? (i := 30) rfl), tq_5 (List.mem_of_getElem? (i := 221) rfl), tq_5 (List.mem_of_getElem? (i := 222) rfl)⟩
set_option maxRecDepth 100000 in
theorem lw_p108 : lw_okq (⟨"PotentialBenchModel", "digit", "(II)I"⟩, 61) := ⟨⟨by decide +kernel, by decide +kernel⟩, tq_4 (List.mem_of_getElem? (i := 30) rfl), tq_5 (List.mem_of_getElem? (i := 225) rfl), tq_5 (List.mem_of_getElem? (i := 226) rfl)⟩
set_option maxRecDepth 100000 in
theorem lw_p109 : lw_okq (⟨"PotentialBenchModel", "swapOne", "(IZ)V"⟩, 61) := ⟨⟨by decide +kernel, by decide +kernel⟩, tq_4 (List.mem_of_getElem? (i := 30) rfl), tq_5 (List.mem_of_getElem? (i := 234) rfl), tq_5 (List.mem_of_getElem? (i := 235) rfl)⟩
set_option maxRecDepth 100000 in
theorem lw_p110 : lw_okq (⟨"PotentialBenchModel", "coming", "(II)I"⟩, 61) := ⟨⟨by decide +kernel, by decide +kernel⟩, tq_4 (List.mem_of_getElem? (i := 30) rfl), tq_5 (List.mem_of_getElem? (i := 239) rfl), tq_6 (List.mem_of_getElem? (i := 0) rfl)⟩
set_option maxRecDepth 100000 in
theorem lw_p111 : lw_okq (⟨"PotentialBenchModel", "giving", "(I)I"⟩, 61) := ⟨⟨by decide +kernel, by decide +kernel⟩, tq_4 (List.mem_of_getElem? (i := 30) rfl), tq_6 (List.mem_of_getElem? (i := 3) rfl), tq_6 (List.mem_of_getElem? (i := 4) rfl)⟩
def lw_privs_7 : List (MethodName × Nat) := [(⟨"PotentialBenchModel", "lay", "(I)V"⟩, 61), (⟨"PotentialBenchModel", "put", "(IJ)V"⟩, 61), (⟨"PotentialBenchModel", "reach", "()Z"⟩, 61), (⟨"PotentialBenchModel", "exchange", "(II)V"⟩, 61), (⟨"PotentialBenchModel", "signOf", "(I)I"⟩, 61), (⟨"PotentialBenchModel", "rowBy", "(IIIZ)V"⟩, 61), (⟨"PotentialBenchModel", "turn", "(I)V"⟩, 61), (⟨"PotentialBenchModel", "times", "(II[I)I"⟩, 61), (⟨"PotentialBenchModel", "join", "()V"⟩, 61), (⟨"PotentialBenchModel", "addRows", "()V"⟩, 61), (⟨"PotentialBenchModel", "shiftInto", "(III)V"⟩, 61), (⟨"PotentialBenchModel", "raise", "(I)V"⟩, 61), (⟨"PotentialBenchModel", "digit", "(II)I"⟩, 61), (⟨"PotentialBenchModel", "swapOne", "(IZ)V"⟩, 61), (⟨"PotentialBenchModel", "coming", "(II)I"⟩, 61), (⟨"PotentialBenchModel", "giving", "(I)I"⟩, 61)]
theorem lw_r7 : ∀ q ∈ lw_privs_7, lw_okq q := List.forall_mem_cons.mpr ⟨lw_p96, List.forall_mem_cons.mpr ⟨lw_p97, List.forall_mem_cons.mpr ⟨lw_p98, List.forall_mem_cons.mpr ⟨lw_p99, List.forall_mem_cons.mpr ⟨lw_p100, List.forall_mem_cons.mpr ⟨lw_p101, List.forall_mem_cons.mpr ⟨lw_p102, List.forall_mem_cons.mpr ⟨lw_p103, List.forall_mem_cons.mpr ⟨lw_p104, List.forall_mem_cons.mpr ⟨lw_p105, List.forall_mem_cons.mpr ⟨lw_p106, List.forall_mem_cons.mpr ⟨lw_p107, List.forall_mem_cons.mpr ⟨lw_p108, List.forall_mem_cons.mpr ⟨lw_p109, List.forall_mem_cons.mpr ⟨lw_p110, List.forall_mem_cons.mpr ⟨lw_p111, fun _ h => absurd h List.not_mem_nil⟩⟩⟩⟩⟩⟩⟩⟩⟩⟩⟩⟩⟩⟩⟩⟩
set_option maxRecDepth 100000 in
theorem lw_p112 : lw_okq (⟨"PotentialBenchModel", "shareOf", "(III)I"⟩, 61) := ⟨⟨by decide +kernel, by decide +kernel⟩, tq_4 (List.mem_of_getElem? (i := 30) rfl), tq_6 (List.mem_of_getElem? (i := 7) rfl), tq_6 (List.mem_of_getElem? (i := 8) rfl)⟩
set_option maxRecDepth 100000 in
theorem lw_p113 : lw_okq (⟨"PotentialBenchModel", "improve", "()V"⟩, 61) := ⟨⟨by decide +kernel, by decide +kernel⟩, tq_4 (List.mem_of_getElem? (i := 30) rfl), tq_6 (List.mem_of_getElem? (i := 15) rfl), tq_6 (List.mem_of_getElem? (i := 16) rfl)⟩
set_option maxRecDepth 100000 in
theorem lw_p114 : lw_okq (⟨"PotentialBenchModel", "boundAt", "(I)I"⟩, 61) := ⟨⟨by decide +kernel, by decide +kernel⟩, tq_4 (List.mem_of_getElem? (i := 30) rfl), tq_6 (List.mem_of_getElem? (i := 27) rfl), tq_6 (List.mem_of_getElem? (i := 28) rfl)⟩
set_option maxRecDepth 100000 in
theorem lw_p115 : lw_okq (⟨"PotentialBenchModel", "sum", "(IIIII)V"⟩, 61) := ⟨⟨by decide +kernel, by decide +kernel⟩, tq_4 (List.mem_of_getElem? (i := 30) rfl), tq_6 (List.mem_of_getElem? (i := 36) rfl), tq_6 (List.mem_of_getElem? (i := 37) rfl)⟩
def lw_privs_8 : List (MethodName × Nat) := [(⟨"PotentialBenchModel", "shareOf", "(III)I"⟩, 61), (⟨"PotentialBenchModel", "improve", "()V"⟩, 61), (⟨"PotentialBenchModel", "boundAt", "(I)I"⟩, 61), (⟨"PotentialBenchModel", "sum", "(IIIII)V"⟩, 61)]
theorem lw_r8 : ∀ q ∈ lw_privs_8, lw_okq q := List.forall_mem_cons.mpr ⟨lw_p112, List.forall_mem_cons.mpr ⟨lw_p113, List.forall_mem_cons.mpr ⟨lw_p114, List.forall_mem_cons.mpr ⟨lw_p115, fun _ h => absurd h List.not_mem_nil⟩⟩⟩⟩
def lw_privs : List (MethodName × Nat) := lw_privs_1 ++ (lw_privs_2 ++ (lw_privs_3 ++ (lw_privs_4 ++ (lw_privs_5 ++ (lw_privs_6 ++ (lw_privs_7 ++ (lw_privs_8)))))))
def lw_tbl : List Cond := k2_sels lw_privs ++ tables_1
theorem lw_privs_ok : ∀ q ∈ lw_privs, lw_okq q := by
  show ∀ q ∈ lw_privs_1 ++ (lw_privs_2 ++ (lw_privs_3 ++ (lw_privs_4 ++ (lw_privs_5 ++ (lw_privs_6 ++ (lw_privs_7 ++ (lw_privs_8))))))), lw_okq q
  exact List.forall_mem_append.mpr ⟨lw_r1, List.forall_mem_append.mpr ⟨lw_r2, List.forall_mem_append.mpr ⟨lw_r3, List.forall_mem_append.mpr ⟨lw_r4, List.forall_mem_append.mpr ⟨lw_r5, List.forall_mem_append.mpr ⟨lw_r6, List.forall_mem_append.mpr ⟨lw_r7, lw_r8⟩⟩⟩⟩⟩⟩⟩

/-- the words that every method's contract asks for, beside its own code: all of the tables that a call hands on -/
def gt : List Cond := lw_tbl.filter goodWord
theorem gt_t {w : Cond} (h : w ∈ tables_1) (hg : goodWord w = true) : w ∈ gt := List.mem_filter.mpr ⟨List.mem_append_right _ h, hg⟩
theorem gt_i (i : Nat) {w : Cond} (h : tables_1[i]? = some w) (hg : goodWord w = true) : w ∈ gt := gt_t (List.mem_of_getElem? h) hg
theorem gq_1 (i : Nat) {w : Cond} (h : tables_1_1[i]? = some w) (hg : goodWord w = true) : w ∈ gt := gt_t (tq_1 (List.mem_of_getElem? h)) hg
theorem gq_2 (i : Nat) {w : Cond} (h : tables_1_2[i]? = some w) (hg : goodWord w = true) : w ∈ gt := gt_t (tq_2 (List.mem_of_getElem? h)) hg
theorem gq_3 (i : Nat) {w : Cond} (h : tables_1_3[i]? = some w) (hg : goodWord w = true) : w ∈ gt := gt_t (tq_3 (List.mem_of_getElem? h)) hg
theorem gq_4 (i : Nat) {w : Cond} (h : tables_1_4[i]? = some w) (hg : goodWord w = true) : w ∈ gt := gt_t (tq_4 (List.mem_of_getElem? h)) hg
theorem gq_5 (i : Nat) {w : Cond} (h : tables_1_5[i]? = some w) (hg : goodWord w = true) : w ∈ gt := gt_t (tq_5 (List.mem_of_getElem? h)) hg
theorem gq_6 (i : Nat) {w : Cond} (h : tables_1_6[i]? = some w) (hg : goodWord w = true) : w ∈ gt := gt_t (tq_6 (List.mem_of_getElem? h)) hg
theorem gt_p {q : MethodName × Nat} (h : q ∈ lw_privs) : Cond.selects q.1.cls q.1 q.1 ∈ gt := List.mem_filter.mpr ⟨List.mem_append_left _ (List.mem_map.mpr ⟨q, h, rfl⟩), rfl⟩
theorem gt_ps (ws : List Cond) (ps : List Nat) (hp : ws = ps.filterMap (fun i => tables_1[i]?)) (h : ws.all goodWord = true) : ∀ w ∈ ws, w ∈ gt := by
  intro w hw
  have h1 := List.all_eq_true.mp h w hw
  rw [hp] at hw
  obtain ⟨i, -, hi⟩ := List.mem_filterMap.mp hw
  exact gt_i i hi h1
theorem gt_good : ∀ w ∈ gt, ((w.onTables && w.keeps) = true ∨ ∃ ty, w = .arrayClass ty) := fun w h => good_of_word (List.mem_filter.mp h).2
theorem gt_self {x : Cond} (hx : x ∈ gt) : GoodIn gt (x :: gt) := fun w h => (List.mem_cons.mp h).elim (fun e => by rw [e]; exact ⟨hx, gt_good x hx⟩) (fun h => ⟨h, gt_good w h⟩)
theorem gt_law : ∀ w ∈ gt, w ∈ lw_tbl := fun w h => (List.mem_filter.mp h).1

def R_PB : String := "PotentialBench"
def T_PB : u_T := fun k => match k with
  | 0 => ("PotentialBench", "bodies", "[LPotentialBench$Body;", true)
  | 1 => ("PotentialBench", "reader", "LPotentialBench$Reader;", true)
  | 2 => ("PotentialBench", "runner", "LPotentialBench$Runner;", true)
  | 3 => ("PotentialBench", "needs", "LPotentialBench$Needs;", true)
  | 4 => ("PotentialBench", "solver", "LPotentialBench$Solver;", true)
  | 5 => ("PotentialBench", "best", "LPotentialBench$Best;", true)
  | 6 => ("PotentialBench", "functions", "I", false)
  | 7 => ("PotentialBench", "wrongPlace", "I", false)
  | _ => ("PotentialBench", "isTold", "Z", false)
def t_PB : Nat → FieldType := fun k => match k with
  | 0 => .array (.object "PotentialBench$Body")
  | 1 => .object "PotentialBench$Reader"
  | 2 => .object "PotentialBench$Runner"
  | 3 => .object "PotentialBench$Needs"
  | 4 => .object "PotentialBench$Solver"
  | 5 => .object "PotentialBench$Best"
  | 6 => .int
  | 7 => .int
  | _ => .boolean
theorem n_PB : ∀ a, a < 9 → ∀ b, b < 9 → a ≠ b → (T_PB a).2.1 ≠ (T_PB b).2.1 := by decide +kernel
theorem k_PB : ∀ k, k < 9 → parseFieldDescriptor (T_PB k).2.2.1 = some (t_PB k) := by decide +kernel
theorem in_PB : ∀ w ∈ u_ws R_PB T_PB 9, w ∈ gt := gt_ps _ [307, 309, 311, 313, 315, 317, 319, 321, 323] (by decide +kernel) (by decide +kernel)
def R_So : String := "PotentialBench$Solver"
def T_So : u_T := fun k => match k with
  | 0 => ("PotentialBench$Solver", "cells", "[LPotentialBench$Whole;", true)
  | 1 => ("PotentialBench$Solver", "rowOf", "[I", true)
  | 2 => ("PotentialBench$Solver", "columnOf", "[I", true)
  | 3 => ("PotentialBench$Solver", "unknownOfRow", "[I", true)
  | 4 => ("PotentialBench$Solver", "unknownOfColumn", "[I", true)
  | 5 => ("PotentialBench$Solver", "under", "LPotentialBench$Whole;", true)
  | 6 => ("PotentialBench$Solver", "pivot", "LPotentialBench$Whole;", true)
  | 7 => ("PotentialBench$Solver", "left", "LPotentialBench$Whole;", true)
  | 8 => ("PotentialBench$Solver", "right", "LPotentialBench$Whole;", true)
  | 9 => ("PotentialBench$Solver", "rest", "LPotentialBench$Whole;", true)
  | 10 => ("PotentialBench$Solver", "rows", "I", false)
  | 11 => ("PotentialBench$Solver", "columns", "I", false)
  | 12 => ("PotentialBench$Solver", "firstSought", "I", false)
  | _ => ("PotentialBench$Solver", "takes", "I", false)
def t_So : Nat → FieldType := fun k => match k with
  | 0 => .array (.object "PotentialBench$Whole")
  | 1 => .array .int
  | 2 => .array .int
  | 3 => .array .int
  | 4 => .array .int
  | 5 => .object "PotentialBench$Whole"
  | 6 => .object "PotentialBench$Whole"
  | 7 => .object "PotentialBench$Whole"
  | 8 => .object "PotentialBench$Whole"
  | 9 => .object "PotentialBench$Whole"
  | 10 => .int
  | 11 => .int
  | 12 => .int
  | _ => .int
theorem n_So : ∀ a, a < 14 → ∀ b, b < 14 → a ≠ b → (T_So a).2.1 ≠ (T_So b).2.1 := by decide +kernel
theorem k_So : ∀ k, k < 14 → parseFieldDescriptor (T_So k).2.2.1 = some (t_So k) := by decide +kernel
theorem in_So : ∀ w ∈ u_ws R_So T_So 14, w ∈ gt := gt_ps _ [65, 67, 69, 71, 73, 75, 77, 79, 81, 83, 85, 87, 89, 91] (by decide +kernel) (by decide +kernel)
def R_Wh : String := "PotentialBench$Whole"
def T_Wh : u_T := fun k => match k with
  | 0 => ("PotentialBench$Whole", "digits", "[I", false)
  | 1 => ("PotentialBench$Whole", "size", "I", false)
  | _ => ("PotentialBench$Whole", "sign", "I", false)
def t_Wh : Nat → FieldType := fun k => match k with
  | 0 => .array .int
  | 1 => .int
  | _ => .int
theorem n_Wh : ∀ a, a < 3 → ∀ b, b < 3 → a ≠ b → (T_Wh a).2.1 ≠ (T_Wh b).2.1 := by decide +kernel
theorem k_Wh : ∀ k, k < 3 → parseFieldDescriptor (T_Wh k).2.2.1 = some (t_Wh k) := by decide +kernel
theorem in_Wh : ∀ w ∈ u_ws R_Wh T_Wh 3, w ∈ gt := gt_ps _ [41, 43, 45] (by decide +kernel) (by decide +kernel)
def R_Be : String := "PotentialBench$Best"
def T_Be : u_T := fun k => match k with
  | 0 => ("PotentialBench$Best", "parts", "[LPotentialBench$Whole;", true)
  | 1 => ("PotentialBench$Best", "under", "LPotentialBench$Whole;", true)
  | 2 => ("PotentialBench$Best", "sum", "LPotentialBench$Whole;", true)
  | 3 => ("PotentialBench$Best", "factor", "LPotentialBench$Whole;", true)
  | 4 => ("PotentialBench$Best", "product", "LPotentialBench$Whole;", true)
  | 5 => ("PotentialBench$Best", "rest", "LPotentialBench$Whole;", true)
  | 6 => ("PotentialBench$Best", "isFound", "Z", false)
  | _ => ("PotentialBench$Best", "takes", "I", false)
def t_Be : Nat → FieldType := fun k => match k with
  | 0 => .array (.object "PotentialBench$Whole")
  | 1 => .object "PotentialBench$Whole"
  | 2 => .object "PotentialBench$Whole"
  | 3 => .object "PotentialBench$Whole"
  | 4 => .object "PotentialBench$Whole"
  | 5 => .object "PotentialBench$Whole"
  | 6 => .boolean
  | _ => .int
theorem n_Be : ∀ a, a < 8 → ∀ b, b < 8 → a ≠ b → (T_Be a).2.1 ≠ (T_Be b).2.1 := by decide +kernel
theorem k_Be : ∀ k, k < 8 → parseFieldDescriptor (T_Be k).2.2.1 = some (t_Be k) := by decide +kernel
theorem in_Be : ∀ w ∈ u_ws R_Be T_Be 8, w ∈ gt := gt_ps _ [111, 113, 115, 117, 119, 121, 123, 125] (by decide +kernel) (by decide +kernel)
def R_Bo : String := "PotentialBench$Body"
def T_Bo : u_T := fun k => match k with
  | 0 => ("PotentialBench$Body", "words", "[I", true)
  | 1 => ("PotentialBench$Body", "start", "[I", true)
  | 2 => ("PotentialBench$Body", "first", "[I", true)
  | 3 => ("PotentialBench$Body", "second", "[I", true)
  | 4 => ("PotentialBench$Body", "known", "[I", true)
  | 5 => ("PotentialBench$Body", "named", "[I", true)
  | 6 => ("PotentialBench$Body", "takes", "I", false)
  | 7 => ("PotentialBench$Body", "size", "I", false)
  | _ => ("PotentialBench$Body", "nodes", "I", false)
def t_Bo : Nat → FieldType := fun k => match k with
  | 0 => .array .int
  | 1 => .array .int
  | 2 => .array .int
  | 3 => .array .int
  | 4 => .array .int
  | 5 => .array .int
  | 6 => .int
  | 7 => .int
  | _ => .int
theorem n_Bo : ∀ a, a < 9 → ∀ b, b < 9 → a ≠ b → (T_Bo a).2.1 ≠ (T_Bo b).2.1 := by decide +kernel
theorem k_Bo : ∀ k, k < 9 → parseFieldDescriptor (T_Bo k).2.2.1 = some (t_Bo k) := by decide +kernel
theorem in_Bo : ∀ w ∈ u_ws R_Bo T_Bo 9, w ∈ gt := gt_ps _ [159, 161, 163, 165, 167, 169, 171, 173, 175] (by decide +kernel) (by decide +kernel)
def R_Re : String := "PotentialBench$Reader"
def T_Re : u_T := fun k => match k with
  | 0 => ("PotentialBench$Reader", "bodies", "[LPotentialBench$Body;", true)
  | 1 => ("PotentialBench$Reader", "body", "LPotentialBench$Body;", false)
  | 2 => ("PotentialBench$Reader", "functions", "I", false)
  | 3 => ("PotentialBench$Reader", "next", "I", false)
  | _ => ("PotentialBench$Reader", "wrong", "I", false)
def t_Re : Nat → FieldType := fun k => match k with
  | 0 => .array (.object "PotentialBench$Body")
  | 1 => .object "PotentialBench$Body"
  | 2 => .int
  | 3 => .int
  | _ => .int
theorem n_Re : ∀ a, a < 5 → ∀ b, b < 5 → a ≠ b → (T_Re a).2.1 ≠ (T_Re b).2.1 := by decide +kernel
theorem k_Re : ∀ k, k < 5 → parseFieldDescriptor (T_Re k).2.2.1 = some (t_Re k) := by decide +kernel
theorem in_Re : ∀ w ∈ u_ws R_Re T_Re 5, w ∈ gt := gt_ps _ [190, 192, 194, 196, 198] (by decide +kernel) (by decide +kernel)
def R_Ru : String := "PotentialBench$Runner"
def T_Ru : u_T := fun k => match k with
  | 0 => ("PotentialBench$Runner", "bodies", "[LPotentialBench$Body;", true)
  | 1 => ("PotentialBench$Runner", "called", "[I", true)
  | 2 => ("PotentialBench$Runner", "lengths", "[I", true)
  | 3 => ("PotentialBench$Runner", "waits", "[I", true)
  | 4 => ("PotentialBench$Runner", "waitingBefore", "[I", true)
  | 5 => ("PotentialBench$Runner", "calls", "I", false)
  | 6 => ("PotentialBench$Runner", "waiting", "I", false)
  | 7 => ("PotentialBench$Runner", "node", "I", false)
  | 8 => ("PotentialBench$Runner", "length", "I", false)
  | 9 => ("PotentialBench$Runner", "begun", "I", false)
  | 10 => ("PotentialBench$Runner", "paid", "J", false)
  | _ => ("PotentialBench$Runner", "gave", "I", false)
def t_Ru : Nat → FieldType := fun k => match k with
  | 0 => .array (.object "PotentialBench$Body")
  | 1 => .array .int
  | 2 => .array .int
  | 3 => .array .int
  | 4 => .array .int
  | 5 => .int
  | 6 => .int
  | 7 => .int
  | 8 => .int
  | 9 => .int
  | 10 => .long
  | _ => .int
theorem n_Ru : ∀ a, a < 12 → ∀ b, b < 12 → a ≠ b → (T_Ru a).2.1 ≠ (T_Ru b).2.1 := by decide +kernel
theorem k_Ru : ∀ k, k < 12 → parseFieldDescriptor (T_Ru k).2.2.1 = some (t_Ru k) := by decide +kernel
theorem in_Ru : ∀ w ∈ u_ws R_Ru T_Ru 12, w ∈ gt := gt_ps _ [222, 224, 226, 228, 230, 232, 234, 236, 238, 240, 242, 244] (by decide +kernel) (by decide +kernel)
def R_Ne : String := "PotentialBench$Needs"
def T_Ne : u_T := fun k => match k with
  | 0 => ("PotentialBench$Needs", "bodies", "[LPotentialBench$Body;", true)
  | 1 => ("PotentialBench$Needs", "firstOf", "[I", true)
  | 2 => ("PotentialBench$Needs", "conditions", "[[I", true)
  | 3 => ("PotentialBench$Needs", "spare", "[I", true)
  | 4 => ("PotentialBench$Needs", "nothing", "[I", true)
  | 5 => ("PotentialBench$Needs", "sums", "[[I", true)
  | 6 => ("PotentialBench$Needs", "brought", "[[I", true)
  | 7 => ("PotentialBench$Needs", "besides", "[[I", true)
  | 8 => ("PotentialBench$Needs", "body", "LPotentialBench$Body;", false)
  | 9 => ("PotentialBench$Needs", "unknowns", "I", false)
  | 10 => ("PotentialBench$Needs", "count", "I", false)
  | _ => ("PotentialBench$Needs", "isFull", "Z", false)
def t_Ne : Nat → FieldType := fun k => match k with
  | 0 => .array (.object "PotentialBench$Body")
  | 1 => .array .int
  | 2 => .array (.array .int)
  | 3 => .array .int
  | 4 => .array .int
  | 5 => .array (.array .int)
  | 6 => .array (.array .int)
  | 7 => .array (.array .int)
  | 8 => .object "PotentialBench$Body"
  | 9 => .int
  | 10 => .int
  | _ => .boolean
theorem n_Ne : ∀ a, a < 12 → ∀ b, b < 12 → a ≠ b → (T_Ne a).2.1 ≠ (T_Ne b).2.1 := by decide +kernel
theorem k_Ne : ∀ k, k < 12 → parseFieldDescriptor (T_Ne k).2.2.1 = some (t_Ne k) := by decide +kernel
theorem in_Ne : ∀ w ∈ u_ws R_Ne T_Ne 12, w ∈ gt := gt_ps _ [273, 275, 277, 279, 281, 283, 285, 287, 289, 291, 293, 295] (by decide +kernel) (by decide +kernel)
def R_Mo : String := "PotentialBenchModel"
def T_Mo : u_T := fun k => match k with
  | 0 => ("PotentialBenchModel", "functions", "I", false)
  | 1 => ("PotentialBenchModel", "takes", "[I", true)
  | 2 => ("PotentialBenchModel", "words", "[I", true)
  | 3 => ("PotentialBenchModel", "counts", "[I", true)
  | 4 => ("PotentialBenchModel", "place", "I", false)
  | 5 => ("PotentialBenchModel", "ends", "[I", true)
  | 6 => ("PotentialBenchModel", "openAt", "[I", true)
  | 7 => ("PotentialBenchModel", "openParts", "[I", true)
  | 8 => ("PotentialBenchModel", "openKnown", "[I", true)
  | 9 => ("PotentialBenchModel", "open", "I", false)
  | 10 => ("PotentialBenchModel", "cost", "J", false)
  | 11 => ("PotentialBenchModel", "given", "I", false)
  | 12 => ("PotentialBenchModel", "steps", "I", false)
  | 13 => ("PotentialBenchModel", "waitKinds", "[I", true)
  | 14 => ("PotentialBenchModel", "waitFunctions", "[I", true)
  | 15 => ("PotentialBenchModel", "waitAts", "[I", true)
  | 16 => ("PotentialBenchModel", "waitBases", "[I", true)
  | 17 => ("PotentialBenchModel", "waitKnowns", "[I", true)
  | 18 => ("PotentialBenchModel", "waiting", "I", false)
  | 19 => ("PotentialBenchModel", "variables", "[I", true)
  | 20 => ("PotentialBenchModel", "base", "I", false)
  | 21 => ("PotentialBenchModel", "known", "I", false)
  | 22 => ("PotentialBenchModel", "now", "I", false)
  | 23 => ("PotentialBenchModel", "at", "I", false)
  | 24 => ("PotentialBenchModel", "calls", "I", false)
  | 25 => ("PotentialBenchModel", "tooLong", "Z", false)
  | 26 => ("PotentialBenchModel", "value", "I", false)
  | 27 => ("PotentialBenchModel", "lines", "[J", true)
  | 28 => ("PotentialBenchModel", "blocks", "I", false)
  | 29 => ("PotentialBenchModel", "unknowns", "I", false)
  | 30 => ("PotentialBenchModel", "conditions", "I", false)
  | 31 => ("PotentialBenchModel", "full", "Z", false)
  | 32 => ("PotentialBenchModel", "firsts", "[I", true)
  | 33 => ("PotentialBenchModel", "sums", "[J", true)
  | 34 => ("PotentialBenchModel", "needing", "I", false)
  | 35 => ("PotentialBenchModel", "needBlocks", "[I", true)
  | 36 => ("PotentialBenchModel", "needAts", "[I", true)
  | 37 => ("PotentialBenchModel", "needKnowns", "[I", true)
  | 38 => ("PotentialBenchModel", "needPhases", "[I", true)
  | 39 => ("PotentialBenchModel", "needParts", "[I", true)
  | 40 => ("PotentialBenchModel", "ready", "I", false)
  | 41 => ("PotentialBenchModel", "digits", "[I", true)
  | 42 => ("PotentialBenchModel", "sizes", "[I", true)
  | 43 => ("PotentialBenchModel", "below", "[Z", true)
  | 44 => ("PotentialBenchModel", "one", "[I", true)
  | 45 => ("PotentialBenchModel", "two", "[I", true)
  | 46 => ("PotentialBenchModel", "quotient", "[I", true)
  | 47 => ("PotentialBenchModel", "divisor", "[I", true)
  | 48 => ("PotentialBenchModel", "oneSize", "I", false)
  | 49 => ("PotentialBenchModel", "twoSize", "I", false)
  | 50 => ("PotentialBenchModel", "oneBelow", "Z", false)
  | 51 => ("PotentialBenchModel", "twoBelow", "Z", false)
  | 52 => ("PotentialBenchModel", "quotientSize", "I", false)
  | 53 => ("PotentialBenchModel", "rows", "I", false)
  | 54 => ("PotentialBenchModel", "aims", "I", false)
  | 55 => ("PotentialBenchModel", "rowNumbers", "[I", true)
  | 56 => ("PotentialBenchModel", "columnNumbers", "[I", true)
  | 57 => ("PotentialBenchModel", "solved", "Z", false)
  | 58 => ("PotentialBenchModel", "boundFunction", "I", false)
  | 59 => ("PotentialBenchModel", "gone", "I", false)
  | _ => ("PotentialBenchModel", "counted", "Z", false)
def t_Mo : Nat → FieldType := fun k => match k with
  | 0 => .int
  | 1 => .array .int
  | 2 => .array .int
  | 3 => .array .int
  | 4 => .int
  | 5 => .array .int
  | 6 => .array .int
  | 7 => .array .int
  | 8 => .array .int
  | 9 => .int
  | 10 => .long
  | 11 => .int
  | 12 => .int
  | 13 => .array .int
  | 14 => .array .int
  | 15 => .array .int
  | 16 => .array .int
  | 17 => .array .int
  | 18 => .int
  | 19 => .array .int
  | 20 => .int
  | 21 => .int
  | 22 => .int
  | 23 => .int
  | 24 => .int
  | 25 => .boolean
  | 26 => .int
  | 27 => .array .long
  | 28 => .int
  | 29 => .int
  | 30 => .int
  | 31 => .boolean
  | 32 => .array .int
  | 33 => .array .long
  | 34 => .int
  | 35 => .array .int
  | 36 => .array .int
  | 37 => .array .int
  | 38 => .array .int
  | 39 => .array .int
  | 40 => .int
  | 41 => .array .int
  | 42 => .array .int
  | 43 => .array .boolean
  | 44 => .array .int
  | 45 => .array .int
  | 46 => .array .int
  | 47 => .array .int
  | 48 => .int
  | 49 => .int
  | 50 => .boolean
  | 51 => .boolean
  | 52 => .int
  | 53 => .int
  | 54 => .int
  | 55 => .array .int
  | 56 => .array .int
  | 57 => .boolean
  | 58 => .int
  | 59 => .int
  | _ => .boolean
theorem n_Mo : ∀ a, a < 61 → ∀ b, b < 61 → a ≠ b → (T_Mo a).2.1 ≠ (T_Mo b).2.1 := by decide +kernel
theorem k_Mo : ∀ k, k < 61 → parseFieldDescriptor (T_Mo k).2.2.1 = some (t_Mo k) := by decide +kernel
theorem in_Mo : ∀ w ∈ u_ws R_Mo T_Mo 61, w ∈ gt := gt_ps _ [818, 820, 822, 824, 826, 828, 830, 832, 834, 836, 838, 840, 842, 844, 846, 848, 850, 852, 854, 856, 858, 860, 862, 864, 866, 868, 870, 872, 874, 876, 878, 880, 882, 884, 886, 888, 890, 892, 894, 896, 898, 900, 902, 904, 906, 908, 910, 912, 914, 916, 918, 920, 922, 924, 926, 928, 930, 932, 934, 936, 938] (by decide +kernel) (by decide +kernel)
def R_La : String := "PotentialBenchLaw"
/-- the classes whose objects the worlds hold -/
abbrev cls : List vw_C := [(R_PB, T_PB, 9), (R_So, T_So, 14), (R_Wh, T_Wh, 3), (R_Be, T_Be, 8), (R_Bo, T_Bo, 9), (R_Re, T_Re, 5), (R_Ru, T_Ru, 12), (R_Ne, T_Ne, 12), (R_Mo, T_Mo, 61)]
abbrev c_PB_init : ByteArray := prog_1_method_1_code
def y_PB_init : MethodName := ⟨"PotentialBench", "<init>", "()V"⟩
set_option maxRecDepth 100000 in
theorem wc_PB_init : Cond.code y_PB_init c_PB_init 2 none ∈ gt := gq_1 19 rfl rfl
abbrev c_So_init : ByteArray := prog_7_method_1_code
def y_So_init : MethodName := ⟨"PotentialBench$Solver", "<init>", "()V"⟩
set_option maxRecDepth 100000 in
theorem wc_So_init : Cond.code y_So_init c_So_init 1 none ∈ gt := gq_1 29 rfl rfl
abbrev c_Wh_init : ByteArray := prog_8_method_1_code
def y_Wh_init : MethodName := ⟨"PotentialBench$Whole", "<init>", "()V"⟩
set_option maxRecDepth 100000 in
theorem wc_Wh_init : Cond.code y_Wh_init c_Wh_init 1 none ∈ gt := gq_1 36 rfl rfl
abbrev c_Be_init : ByteArray := prog_2_method_1_code
def y_Be_init : MethodName := ⟨"PotentialBench$Best", "<init>", "()V"⟩
set_option maxRecDepth 100000 in
theorem wc_Be_init : Cond.code y_Be_init c_Be_init 2 none ∈ gt := gq_1 98 rfl rfl
abbrev c_Bo_init : ByteArray := prog_3_method_1_code
def y_Bo_init : MethodName := ⟨"PotentialBench$Body", "<init>", "()V"⟩
set_option maxRecDepth 100000 in
theorem wc_Bo_init : Cond.code y_Bo_init c_Bo_init 1 none ∈ gt := gq_1 131 rfl rfl
abbrev c_Re_init : ByteArray := prog_5_method_1_code
def y_Re_init : MethodName := ⟨"PotentialBench$Reader", "<init>", "([LPotentialBench$Body;)V"⟩
set_option maxRecDepth 100000 in
theorem wc_Re_init : Cond.code y_Re_init c_Re_init 2 none ∈ gt := gq_1 182 rfl rfl
abbrev c_Ru_init : ByteArray := prog_6_method_1_code
def y_Ru_init : MethodName := ⟨"PotentialBench$Runner", "<init>", "([LPotentialBench$Body;)V"⟩
set_option maxRecDepth 100000 in
theorem wc_Ru_init : Cond.code y_Ru_init c_Ru_init 2 none ∈ gt := gq_1 205 rfl rfl
abbrev c_Ne_init : ByteArray := prog_4_method_1_code
def y_Ne_init : MethodName := ⟨"PotentialBench$Needs", "<init>", "([LPotentialBench$Body;)V"⟩
set_option maxRecDepth 100000 in
theorem wc_Ne_init : Cond.code y_Ne_init c_Ne_init 2 none ∈ gt := gq_2 11 rfl rfl
abbrev c_PB_function : ByteArray := prog_1_method_2_code
def y_PB_function : MethodName := ⟨"PotentialBench", "function", "(I)I"⟩
set_option maxRecDepth 100000 in
theorem wc_PB_function : Cond.code y_PB_function c_PB_function 2 (some .int) ∈ gt := gq_2 89 rfl rfl
abbrev c_PB_word : ByteArray := prog_1_method_3_code
def y_PB_word : MethodName := ⟨"PotentialBench", "word", "(II)I"⟩
set_option maxRecDepth 100000 in
theorem wc_PB_word : Cond.code y_PB_word c_PB_word 4 (some .int) ∈ gt := gq_2 93 rfl rfl
abbrev c_PB_isFunction : ByteArray := prog_1_method_15_code
def y_PB_isFunction : MethodName := ⟨"PotentialBench", "isFunction", "(I)Z"⟩
set_option maxRecDepth 100000 in
theorem wc_PB_isFunction : Cond.code y_PB_isFunction c_PB_isFunction 2 (some .boolean) ∈ gt := gq_2 97 rfl rfl
abbrev c_PB_cut : ByteArray := prog_1_method_4_code
def y_PB_cut : MethodName := ⟨"PotentialBench", "cut", "(II)Z"⟩
set_option maxRecDepth 100000 in
theorem wc_PB_cut : Cond.code y_PB_cut c_PB_cut 3 (some .boolean) ∈ gt := gq_2 101 rfl rfl
abbrev c_PB_look : ByteArray := prog_1_method_5_code
def y_PB_look : MethodName := ⟨"PotentialBench", "look", "()I"⟩
set_option maxRecDepth 100000 in
theorem wc_PB_look : Cond.code y_PB_look c_PB_look 2 (some .int) ∈ gt := gq_2 105 rfl rfl
abbrev c_PB_firstWrong : ByteArray := prog_1_method_18_code
def y_PB_firstWrong : MethodName := ⟨"PotentialBench", "firstWrong", "()I"⟩
set_option maxRecDepth 100000 in
theorem wc_PB_firstWrong : Cond.code y_PB_firstWrong c_PB_firstWrong 2 (some .int) ∈ gt := gq_2 109 rfl rfl
abbrev c_Re_isRight : ByteArray := prog_5_method_2_code
def y_Re_isRight : MethodName := ⟨"PotentialBench$Reader", "isRight", "(II)Z"⟩
set_option maxRecDepth 100000 in
theorem wc_Re_isRight : Cond.code y_Re_isRight c_Re_isRight 3 (some .boolean) ∈ gt := gq_2 113 rfl rfl
abbrev c_Re_expression : ByteArray := prog_5_method_3_code
def y_Re_expression : MethodName := ⟨"PotentialBench$Reader", "expression", "(II)I"⟩
set_option maxRecDepth 100000 in
theorem wc_Re_expression : Cond.code y_Re_expression c_Re_expression 5 (some .int) ∈ gt := gq_2 117 rfl rfl
abbrev c_Re_number : ByteArray := prog_5_method_7_code
def y_Re_number : MethodName := ⟨"PotentialBench$Reader", "number", "(II)I"⟩
set_option maxRecDepth 100000 in
theorem wc_Re_number : Cond.code y_Re_number c_Re_number 3 (some .int) ∈ gt := gq_2 121 rfl rfl
abbrev c_Bo_begin : ByteArray := prog_3_method_2_code
def y_Bo_begin : MethodName := ⟨"PotentialBench$Body", "begin", "(II)I"⟩
set_option maxRecDepth 100000 in
theorem wc_Bo_begin : Cond.code y_Bo_begin c_Bo_begin 4 (some .int) ∈ gt := gq_2 125 rfl rfl
abbrev c_Re_variable : ByteArray := prog_5_method_6_code
def y_Re_variable : MethodName := ⟨"PotentialBench$Reader", "variable", "(I)V"⟩
set_option maxRecDepth 100000 in
theorem wc_Re_variable : Cond.code y_Re_variable c_Re_variable 3 none ∈ gt := gq_2 129 rfl rfl
abbrev c_Re_parts : ByteArray := prog_5_method_4_code
def y_Re_parts : MethodName := ⟨"PotentialBench$Reader", "parts", "(IIZ)V"⟩
set_option maxRecDepth 100000 in
theorem wc_Re_parts : Cond.code y_Re_parts c_Re_parts 6 none ∈ gt := gq_2 133 rfl rfl
abbrev c_Re_call : ByteArray := prog_5_method_5_code
def y_Re_call : MethodName := ⟨"PotentialBench$Reader", "call", "(I)V"⟩
set_option maxRecDepth 100000 in
theorem wc_Re_call : Cond.code y_Re_call c_Re_call 4 none ∈ gt := gq_2 137 rfl rfl
abbrev c_PB_place : ByteArray := prog_1_method_6_code
def y_PB_place : MethodName := ⟨"PotentialBench", "place", "()I"⟩
set_option maxRecDepth 100000 in
theorem wc_PB_place : Cond.code y_PB_place c_PB_place 1 (some .int) ∈ gt := gq_2 141 rfl rfl
abbrev c_PB_run : ByteArray := prog_1_method_7_code
def y_PB_run : MethodName := ⟨"PotentialBench", "run", "(IIII)I"⟩
set_option maxRecDepth 100000 in
theorem wc_PB_run : Cond.code y_PB_run c_PB_run 5 (some .int) ∈ gt := gq_2 145 rfl rfl
abbrev c_PB_areLengths : ByteArray := prog_1_method_16_code
def y_PB_areLengths : MethodName := ⟨"PotentialBench", "areLengths", "(IIII)Z"⟩
set_option maxRecDepth 100000 in
theorem wc_PB_areLengths : Cond.code y_PB_areLengths c_PB_areLengths 4 (some .boolean) ∈ gt := gq_2 148 rfl rfl
abbrev c_PB_isLength : ByteArray := prog_1_method_17_code
def y_PB_isLength : MethodName := ⟨"PotentialBench", "isLength", "(I)Z"⟩
set_option maxRecDepth 100000 in
theorem wc_PB_isLength : Cond.code y_PB_isLength c_PB_isLength 1 (some .boolean) ∈ gt := gq_2 151 rfl rfl
abbrev c_Ru_start : ByteArray := prog_6_method_2_code
def y_Ru_start : MethodName := ⟨"PotentialBench$Runner", "start", "(IIII)V"⟩
set_option maxRecDepth 100000 in
theorem wc_Ru_start : Cond.code y_Ru_start c_Ru_start 5 none ∈ gt := gq_2 155 rfl rfl
abbrev c_Ru_open : ByteArray := prog_6_method_7_code
def y_Ru_open : MethodName := ⟨"PotentialBench$Runner", "open", "(I)V"⟩
set_option maxRecDepth 100000 in
theorem wc_Ru_open : Cond.code y_Ru_open c_Ru_open 2 none ∈ gt := gq_2 159 rfl rfl
abbrev c_Ru_finish : ByteArray := prog_6_method_3_code
def y_Ru_finish : MethodName := ⟨"PotentialBench$Runner", "finish", "()Z"⟩
set_option maxRecDepth 100000 in
theorem wc_Ru_finish : Cond.code y_Ru_finish c_Ru_finish 2 (some .boolean) ∈ gt := gq_2 163 rfl rfl
abbrev c_Ru_reachLength : ByteArray := prog_6_method_4_code
def y_Ru_reachLength : MethodName := ⟨"PotentialBench$Runner", "reachLength", "()Z"⟩
set_option maxRecDepth 100000 in
theorem wc_Ru_reachLength : Cond.code y_Ru_reachLength c_Ru_reachLength 4 (some .boolean) ∈ gt := gq_2 167 rfl rfl
abbrev c_Bo_kind : ByteArray := prog_3_method_3_code
def y_Bo_kind : MethodName := ⟨"PotentialBench$Body", "kind", "(I)I"⟩
set_option maxRecDepth 100000 in
theorem wc_Bo_kind : Cond.code y_Bo_kind c_Bo_kind 2 (some .int) ∈ gt := gq_2 171 rfl rfl
abbrev c_Bo_operand : ByteArray := prog_3_method_4_code
def y_Bo_operand : MethodName := ⟨"PotentialBench$Body", "operand", "(I)I"⟩
set_option maxRecDepth 100000 in
theorem wc_Bo_operand : Cond.code y_Bo_operand c_Bo_operand 2 (some .int) ∈ gt := gq_2 175 rfl rfl
abbrev c_Ru_slot : ByteArray := prog_6_method_8_code
def y_Ru_slot : MethodName := ⟨"PotentialBench$Runner", "slot", "(I)I"⟩
set_option maxRecDepth 100000 in
theorem wc_Ru_slot : Cond.code y_Ru_slot c_Ru_slot 2 (some .int) ∈ gt := gq_2 179 rfl rfl
abbrev c_Ru_hand : ByteArray := prog_6_method_6_code
def y_Ru_hand : MethodName := ⟨"PotentialBench$Runner", "hand", "(LPotentialBench$Body;)V"⟩
set_option maxRecDepth 100000 in
theorem wc_Ru_hand : Cond.code y_Ru_hand c_Ru_hand 7 none ∈ gt := gq_2 183 rfl rfl
abbrev c_Bo_handed : ByteArray := prog_3_method_5_code
def y_Bo_handed : MethodName := ⟨"PotentialBench$Body", "handed", "(II)I"⟩
set_option maxRecDepth 100000 in
theorem wc_Bo_handed : Cond.code y_Bo_handed c_Bo_handed 3 (some .int) ∈ gt := gq_2 187 rfl rfl
abbrev c_Ru_goInside : ByteArray := prog_6_method_5_code
def y_Ru_goInside : MethodName := ⟨"PotentialBench$Runner", "goInside", "(LPotentialBench$Body;I)V"⟩
set_option maxRecDepth 100000 in
theorem wc_Ru_goInside : Cond.code y_Ru_goInside c_Ru_goInside 5 none ∈ gt := gq_2 191 rfl rfl
abbrev c_Ru_passOn : ByteArray := prog_6_method_9_code
def y_Ru_passOn : MethodName := ⟨"PotentialBench$Runner", "passOn", "()Z"⟩
set_option maxRecDepth 100000 in
theorem wc_Ru_passOn : Cond.code y_Ru_passOn c_Ru_passOn 4 (some .boolean) ∈ gt := gq_2 195 rfl rfl
abbrev c_PB_cost : ByteArray := prog_1_method_8_code
def y_PB_cost : MethodName := ⟨"PotentialBench", "cost", "()J"⟩
set_option maxRecDepth 100000 in
theorem wc_PB_cost : Cond.code y_PB_cost c_PB_cost 1 (some .long) ∈ gt := gq_2 199 rfl rfl
abbrev c_PB_given : ByteArray := prog_1_method_9_code
def y_PB_given : MethodName := ⟨"PotentialBench", "given", "()I"⟩
set_option maxRecDepth 100000 in
theorem wc_PB_given : Cond.code y_PB_given c_PB_given 1 (some .int) ∈ gt := gq_2 203 rfl rfl
abbrev c_PB_steps : ByteArray := prog_1_method_10_code
def y_PB_steps : MethodName := ⟨"PotentialBench", "steps", "()I"⟩
set_option maxRecDepth 100000 in
theorem wc_PB_steps : Cond.code y_PB_steps c_PB_steps 1 (some .int) ∈ gt := gq_2 207 rfl rfl
abbrev c_PB_bound : ByteArray := prog_1_method_11_code
def y_PB_bound : MethodName := ⟨"PotentialBench", "bound", "(I)I"⟩
set_option maxRecDepth 100000 in
theorem wc_PB_bound : Cond.code y_PB_bound c_PB_bound 2 (some .int) ∈ gt := gq_2 211 rfl rfl
abbrev c_Ne_gather : ByteArray := prog_4_method_2_code
def y_Ne_gather : MethodName := ⟨"PotentialBench$Needs", "gather", "(I)Z"⟩
set_option maxRecDepth 100000 in
theorem wc_Ne_gather : Cond.code y_Ne_gather c_Ne_gather 3 (some .boolean) ∈ gt := gq_2 215 rfl rfl
abbrev c_Ne_goThrough : ByteArray := prog_4_method_3_code
def y_Ne_goThrough : MethodName := ⟨"PotentialBench$Needs", "goThrough", "(I)V"⟩
set_option maxRecDepth 100000 in
theorem wc_Ne_goThrough : Cond.code y_Ne_goThrough c_Ne_goThrough 3 none ∈ gt := gq_2 219 rfl rfl
abbrev c_JA_fill : ByteArray := prog_16_method_103_code
def y_JA_fill : MethodName := ⟨"java/util/Arrays", "fill", "([II)V"⟩
set_option maxRecDepth 100000 in
theorem wc_JA_fill : Cond.code y_JA_fill c_JA_fill 4 none ∈ gt := gq_2 222 rfl rfl
abbrev c_Ne_bringsOf : ByteArray := prog_4_method_5_code
def y_Ne_bringsOf : MethodName := ⟨"PotentialBench$Needs", "bringsOf", "(I)I"⟩
set_option maxRecDepth 100000 in
theorem wc_Ne_bringsOf : Cond.code y_Ne_bringsOf c_Ne_bringsOf 2 (some .int) ∈ gt := gq_2 226 rfl rfl
abbrev c_Ne_paysOf : ByteArray := prog_4_method_4_code
def y_Ne_paysOf : MethodName := ⟨"PotentialBench$Needs", "paysOf", "(I)I"⟩
set_option maxRecDepth 100000 in
theorem wc_Ne_paysOf : Cond.code y_Ne_paysOf c_Ne_paysOf 2 (some .int) ∈ gt := gq_2 230 rfl rfl
abbrev c_Ne_leavesOf : ByteArray := prog_4_method_6_code
def y_Ne_leavesOf : MethodName := ⟨"PotentialBench$Needs", "leavesOf", "(I)I"⟩
set_option maxRecDepth 100000 in
theorem wc_Ne_leavesOf : Cond.code y_Ne_leavesOf c_Ne_leavesOf 2 (some .int) ∈ gt := gq_2 234 rfl rfl
abbrev c_Ne_clear : ByteArray := prog_4_method_16_code
def y_Ne_clear : MethodName := ⟨"PotentialBench$Needs", "clear", "(I)V"⟩
set_option maxRecDepth 100000 in
theorem wc_Ne_clear : Cond.code y_Ne_clear c_Ne_clear 3 none ∈ gt := gq_2 238 rfl rfl
abbrev c_Ne_sum : ByteArray := prog_4_method_15_code
def y_Ne_sum : MethodName := ⟨"PotentialBench$Needs", "sum", "(II)[I"⟩
set_option maxRecDepth 100000 in
theorem wc_Ne_sum : Cond.code y_Ne_sum c_Ne_sum 3 (some (.array .int)) ∈ gt := gq_3 2 rfl rfl
abbrev c_Ne_add : ByteArray := prog_4_method_7_code
def y_Ne_add : MethodName := ⟨"PotentialBench$Needs", "add", "(III)V"⟩
set_option maxRecDepth 100000 in
theorem wc_Ne_add : Cond.code y_Ne_add c_Ne_add 4 none ∈ gt := gq_3 6 rfl rfl
abbrev c_Ne_plus : ByteArray := prog_4_method_19_code
def y_Ne_plus : MethodName := ⟨"PotentialBench$Needs", "plus", "([I[I)V"⟩
set_option maxRecDepth 100000 in
theorem wc_Ne_plus : Cond.code y_Ne_plus c_Ne_plus 3 none ∈ gt := gq_3 11 rfl rfl
abbrev c_Ne_addBranches : ByteArray := prog_4_method_11_code
def y_Ne_addBranches : MethodName := ⟨"PotentialBench$Needs", "addBranches", "(III)V"⟩
set_option maxRecDepth 100000 in
theorem wc_Ne_addBranches : Cond.code y_Ne_addBranches c_Ne_addBranches 9 none ∈ gt := gq_3 15 rfl rfl
abbrev c_Bo_others : ByteArray := prog_3_method_6_code
def y_Bo_others : MethodName := ⟨"PotentialBench$Body", "others", "(I)I"⟩
set_option maxRecDepth 100000 in
theorem wc_Bo_others : Cond.code y_Bo_others c_Bo_others 3 (some .int) ∈ gt := gq_3 19 rfl rfl
abbrev c_JI_bitCount : ByteArray := prog_12_method_49_code
def y_JI_bitCount : MethodName := ⟨"java/lang/Integer", "bitCount", "(I)I"⟩
set_option maxRecDepth 100000 in
theorem wc_JI_bitCount : Cond.code y_JI_bitCount c_JI_bitCount 1 (some .int) ∈ gt := gq_3 23 rfl rfl
abbrev c_Ne_handDown : ByteArray := prog_4_method_14_code
def y_Ne_handDown : MethodName := ⟨"PotentialBench$Needs", "handDown", "(I)V"⟩
set_option maxRecDepth 100000 in
theorem wc_Ne_handDown : Cond.code y_Ne_handDown c_Ne_handDown 2 none ∈ gt := gq_3 30 rfl rfl
abbrev c_Ne_copy : ByteArray := prog_4_method_18_code
def y_Ne_copy : MethodName := ⟨"PotentialBench$Needs", "copy", "([I[I)V"⟩
set_option maxRecDepth 100000 in
theorem wc_Ne_copy : Cond.code y_Ne_copy c_Ne_copy 2 none ∈ gt := gq_3 33 rfl rfl
abbrev c_Ne_atLeast : ByteArray := prog_4_method_17_code
def y_Ne_atLeast : MethodName := ⟨"PotentialBench$Needs", "atLeast", "(I[I)[I"⟩
set_option maxRecDepth 100000 in
theorem wc_Ne_atLeast : Cond.code y_Ne_atLeast c_Ne_atLeast 5 (some (.array .int)) ∈ gt := gq_3 40 rfl rfl
abbrev c_Ne_coverOthers : ByteArray := prog_4_method_12_code
def y_Ne_coverOthers : MethodName := ⟨"PotentialBench$Needs", "coverOthers", "(III)V"⟩
set_option maxRecDepth 100000 in
theorem wc_Ne_coverOthers : Cond.code y_Ne_coverOthers c_Ne_coverOthers 6 none ∈ gt := gq_3 44 rfl rfl
abbrev c_Ne_needOthers : ByteArray := prog_4_method_13_code
def y_Ne_needOthers : MethodName := ⟨"PotentialBench$Needs", "needOthers", "(III)V"⟩
set_option maxRecDepth 100000 in
theorem wc_Ne_needOthers : Cond.code y_Ne_needOthers c_Ne_needOthers 6 none ∈ gt := gq_3 48 rfl rfl
abbrev c_Ne_addCall : ByteArray := prog_4_method_10_code
def y_Ne_addCall : MethodName := ⟨"PotentialBench$Needs", "addCall", "(III)V"⟩
set_option maxRecDepth 100000 in
theorem wc_Ne_addCall : Cond.code y_Ne_addCall c_Ne_addCall 8 none ∈ gt := gq_3 52 rfl rfl
abbrev c_Ne_addThen : ByteArray := prog_4_method_9_code
def y_Ne_addThen : MethodName := ⟨"PotentialBench$Needs", "addThen", "(III)V"⟩
set_option maxRecDepth 100000 in
theorem wc_Ne_addThen : Cond.code y_Ne_addThen c_Ne_addThen 5 none ∈ gt := gq_3 57 rfl rfl
abbrev c_Ne_addOnePart : ByteArray := prog_4_method_8_code
def y_Ne_addOnePart : MethodName := ⟨"PotentialBench$Needs", "addOnePart", "(III)V"⟩
set_option maxRecDepth 100000 in
theorem wc_Ne_addOnePart : Cond.code y_Ne_addOnePart c_Ne_addOnePart 5 none ∈ gt := gq_3 61 rfl rfl
abbrev c_So_load : ByteArray := prog_7_method_2_code
def y_So_load : MethodName := ⟨"PotentialBench$Solver", "load", "(LPotentialBench$Needs;II)V"⟩
set_option maxRecDepth 100000 in
theorem wc_So_load : Cond.code y_So_load c_So_load 5 none ∈ gt := gq_3 65 rfl rfl
abbrev c_Wh_set : ByteArray := prog_8_method_2_code
def y_Wh_set : MethodName := ⟨"PotentialBench$Whole", "set", "(J)V"⟩
set_option maxRecDepth 100000 in
theorem wc_Wh_set : Cond.code y_Wh_set c_Wh_set 6 none ∈ gt := gq_3 69 rfl rfl
abbrev c_JL_compare : ByteArray := prog_13_method_42_code
def y_JL_compare : MethodName := ⟨"java/lang/Long", "compare", "(JJ)I"⟩
set_option maxRecDepth 100000 in
theorem wc_JL_compare : Cond.code y_JL_compare c_JL_compare 4 (some .int) ∈ gt := gq_3 72 rfl rfl
abbrev c_Wh_trim : ByteArray := prog_8_method_23_code
def y_Wh_trim : MethodName := ⟨"PotentialBench$Whole", "trim", "(I)V"⟩
set_option maxRecDepth 100000 in
theorem wc_Wh_trim : Cond.code y_Wh_trim c_Wh_trim 2 none ∈ gt := gq_3 77 rfl rfl
abbrev c_So_cell : ByteArray := prog_7_method_5_code
def y_So_cell : MethodName := ⟨"PotentialBench$Solver", "cell", "(II)LPotentialBench$Whole;"⟩
set_option maxRecDepth 100000 in
theorem wc_So_cell : Cond.code y_So_cell c_So_cell 4 (some (.object "PotentialBench$Whole")) ∈ gt := gq_3 81 rfl rfl
abbrev c_So_canFail : ByteArray := prog_7_method_3_code
def y_So_canFail : MethodName := ⟨"PotentialBench$Solver", "canFail", "([I)Z"⟩
set_option maxRecDepth 100000 in
theorem wc_So_canFail : Cond.code y_So_canFail c_So_canFail 2 (some .boolean) ∈ gt := gq_3 84 rfl rfl
abbrev c_So_loadRow : ByteArray := prog_7_method_4_code
def y_So_loadRow : MethodName := ⟨"PotentialBench$Solver", "loadRow", "([I)V"⟩
set_option maxRecDepth 100000 in
theorem wc_So_loadRow : Cond.code y_So_loadRow c_So_loadRow 3 none ∈ gt := gq_3 88 rfl rfl
abbrev c_So_solve : ByteArray := prog_7_method_6_code
def y_So_solve : MethodName := ⟨"PotentialBench$Solver", "solve", "()Z"⟩
set_option maxRecDepth 100000 in
theorem wc_So_solve : Cond.code y_So_solve c_So_solve 4 (some .boolean) ∈ gt := gq_3 92 rfl rfl
abbrev c_So_lowestRow : ByteArray := prog_7_method_7_code
def y_So_lowestRow : MethodName := ⟨"PotentialBench$Solver", "lowestRow", "()I"⟩
set_option maxRecDepth 100000 in
theorem wc_So_lowestRow : Cond.code y_So_lowestRow c_So_lowestRow 4 (some .int) ∈ gt := gq_3 97 rfl rfl
abbrev c_Wh_sign : ByteArray := prog_8_method_5_code
def y_Wh_sign : MethodName := ⟨"PotentialBench$Whole", "sign", "()I"⟩
set_option maxRecDepth 100000 in
theorem wc_Wh_sign : Cond.code y_Wh_sign c_Wh_sign 1 (some .int) ∈ gt := gq_3 101 rfl rfl
abbrev c_Wh_compare : ByteArray := prog_8_method_9_code
def y_Wh_compare : MethodName := ⟨"PotentialBench$Whole", "compare", "(LPotentialBench$Whole;)I"⟩
set_option maxRecDepth 100000 in
theorem wc_Wh_compare : Cond.code y_Wh_compare c_Wh_compare 2 (some .int) ∈ gt := gq_3 105 rfl rfl
abbrev c_JI_compare : ByteArray := prog_12_method_40_code
def y_JI_compare : MethodName := ⟨"java/lang/Integer", "compare", "(II)I"⟩
set_option maxRecDepth 100000 in
theorem wc_JI_compare : Cond.code y_JI_compare c_JI_compare 2 (some .int) ∈ gt := gq_3 108 rfl rfl
abbrev c_Wh_compareAmount : ByteArray := prog_8_method_10_code
def y_Wh_compareAmount : MethodName := ⟨"PotentialBench$Whole", "compareAmount", "(LPotentialBench$Whole;)I"⟩
set_option maxRecDepth 100000 in
theorem wc_Wh_compareAmount : Cond.code y_Wh_compareAmount c_Wh_compareAmount 3 (some .int) ∈ gt := gq_3 112 rfl rfl
abbrev c_So_entering : ByteArray := prog_7_method_8_code
def y_So_entering : MethodName := ⟨"PotentialBench$Solver", "entering", "(I)I"⟩
set_option maxRecDepth 100000 in
theorem wc_So_entering : Cond.code y_So_entering c_So_entering 4 (some .int) ∈ gt := gq_3 116 rfl rfl
abbrev c_So_isDearer : ByteArray := prog_7_method_9_code
def y_So_isDearer : MethodName := ⟨"PotentialBench$Solver", "isDearer", "(III)Z"⟩
set_option maxRecDepth 100000 in
theorem wc_So_isDearer : Cond.code y_So_isDearer c_So_isDearer 7 (some .boolean) ∈ gt := gq_3 120 rfl rfl
abbrev c_So_compareIn : ByteArray := prog_7_method_10_code
def y_So_compareIn : MethodName := ⟨"PotentialBench$Solver", "compareIn", "(IIII)I"⟩
set_option maxRecDepth 100000 in
theorem wc_So_compareIn : Cond.code y_So_compareIn c_So_compareIn 9 (some .int) ∈ gt := gq_3 124 rfl rfl
abbrev c_Wh_isSmall : ByteArray := prog_8_method_6_code
def y_Wh_isSmall : MethodName := ⟨"PotentialBench$Whole", "isSmall", "()Z"⟩
set_option maxRecDepth 100000 in
theorem wc_Wh_isSmall : Cond.code y_Wh_isSmall c_Wh_isSmall 1 (some .boolean) ∈ gt := gq_3 128 rfl rfl
abbrev c_Wh_small : ByteArray := prog_8_method_7_code
def y_Wh_small : MethodName := ⟨"PotentialBench$Whole", "small", "()J"⟩
set_option maxRecDepth 100000 in
theorem wc_Wh_small : Cond.code y_Wh_small c_Wh_small 1 (some .long) ∈ gt := gq_3 132 rfl rfl
abbrev c_Wh_multiply : ByteArray := prog_8_method_11_code
def y_Wh_multiply : MethodName := ⟨"PotentialBench$Whole", "multiply", "(LPotentialBench$Whole;LPotentialBench$Whole;)V"⟩
set_option maxRecDepth 100000 in
theorem wc_Wh_multiply : Cond.code y_Wh_multiply c_Wh_multiply 8 none ∈ gt := gq_3 137 rfl rfl
abbrev c_Wh_room : ByteArray := prog_8_method_22_code
def y_Wh_room : MethodName := ⟨"PotentialBench$Whole", "room", "(I)V"⟩
set_option maxRecDepth 100000 in
theorem wc_Wh_room : Cond.code y_Wh_room c_Wh_room 3 none ∈ gt := gq_3 141 rfl rfl
abbrev c_JA_copyOf : ByteArray := prog_16_method_123_code
def y_JA_copyOf : MethodName := ⟨"java/util/Arrays", "copyOf", "([II)[I"⟩
set_option maxRecDepth 100000 in
theorem wc_JA_copyOf : Cond.code y_JA_copyOf c_JA_copyOf 3 (some (.array .int)) ∈ gt := gq_3 144 rfl rfl
abbrev c_JM_min : ByteArray := prog_14_method_69_code
def y_JM_min : MethodName := ⟨"java/lang/Math", "min", "(II)I"⟩
set_option maxRecDepth 100000 in
theorem wc_JM_min : Cond.code y_JM_min c_JM_min 2 (some .int) ∈ gt := gq_3 154 rfl rfl
abbrev c_So_exchange : ByteArray := prog_7_method_11_code
def y_So_exchange : MethodName := ⟨"PotentialBench$Solver", "exchange", "(II)V"⟩
set_option maxRecDepth 100000 in
theorem wc_So_exchange : Cond.code y_So_exchange c_So_exchange 8 none ∈ gt := gq_3 159 rfl rfl
abbrev c_Wh_copy : ByteArray := prog_8_method_3_code
def y_Wh_copy : MethodName := ⟨"PotentialBench$Whole", "copy", "(LPotentialBench$Whole;)V"⟩
set_option maxRecDepth 100000 in
theorem wc_Wh_copy : Cond.code y_Wh_copy c_Wh_copy 2 none ∈ gt := gq_3 163 rfl rfl
abbrev c_So_put : ByteArray := prog_7_method_12_code
def y_So_put : MethodName := ⟨"PotentialBench$Solver", "put", "(LPotentialBench$Whole;LPotentialBench$Whole;LPotentialBench$Whole;)V"⟩
set_option maxRecDepth 100000 in
theorem wc_So_put : Cond.code y_So_put c_So_put 5 none ∈ gt := gq_3 168 rfl rfl
abbrev c_Wh_subtract : ByteArray := prog_8_method_12_code
def y_Wh_subtract : MethodName := ⟨"PotentialBench$Whole", "subtract", "(LPotentialBench$Whole;)V"⟩
set_option maxRecDepth 100000 in
theorem wc_Wh_subtract : Cond.code y_Wh_subtract c_Wh_subtract 2 none ∈ gt := gq_3 172 rfl rfl
abbrev c_Wh_negate : ByteArray := prog_8_method_4_code
def y_Wh_negate : MethodName := ⟨"PotentialBench$Whole", "negate", "()V"⟩
set_option maxRecDepth 100000 in
theorem wc_Wh_negate : Cond.code y_Wh_negate c_Wh_negate 1 none ∈ gt := gq_3 177 rfl rfl
abbrev c_Wh_addAmount : ByteArray := prog_8_method_13_code
def y_Wh_addAmount : MethodName := ⟨"PotentialBench$Whole", "addAmount", "(LPotentialBench$Whole;)V"⟩
set_option maxRecDepth 100000 in
theorem wc_Wh_addAmount : Cond.code y_Wh_addAmount c_Wh_addAmount 6 none ∈ gt := gq_3 181 rfl rfl
abbrev c_Wh_digit : ByteArray := prog_8_method_15_code
def y_Wh_digit : MethodName := ⟨"PotentialBench$Whole", "digit", "(I)I"⟩
set_option maxRecDepth 100000 in
theorem wc_Wh_digit : Cond.code y_Wh_digit c_Wh_digit 2 (some .int) ∈ gt := gq_3 185 rfl rfl
abbrev c_Wh_differ : ByteArray := prog_8_method_14_code
def y_Wh_differ : MethodName := ⟨"PotentialBench$Whole", "differ", "(LPotentialBench$Whole;LPotentialBench$Whole;)V"⟩
set_option maxRecDepth 100000 in
theorem wc_Wh_differ : Cond.code y_Wh_differ c_Wh_differ 7 none ∈ gt := gq_3 189 rfl rfl
abbrev c_Wh_divide : ByteArray := prog_8_method_16_code
def y_Wh_divide : MethodName := ⟨"PotentialBench$Whole", "divide", "(LPotentialBench$Whole;LPotentialBench$Whole;LPotentialBench$Whole;)V"⟩
set_option maxRecDepth 100000 in
theorem wc_Wh_divide : Cond.code y_Wh_divide c_Wh_divide 9 none ∈ gt := gq_3 193 rfl rfl
abbrev c_Wh_divideByDigit : ByteArray := prog_8_method_17_code
def y_Wh_divideByDigit : MethodName := ⟨"PotentialBench$Whole", "divideByDigit", "(I)V"⟩
set_option maxRecDepth 100000 in
theorem wc_Wh_divideByDigit : Cond.code y_Wh_divideByDigit c_Wh_divideByDigit 5 none ∈ gt := gq_3 198 rfl rfl
abbrev c_Wh_bitsFree : ByteArray := prog_8_method_18_code
def y_Wh_bitsFree : MethodName := ⟨"PotentialBench$Whole", "bitsFree", "()I"⟩
set_option maxRecDepth 100000 in
theorem wc_Wh_bitsFree : Cond.code y_Wh_bitsFree c_Wh_bitsFree 5 (some .int) ∈ gt := gq_3 202 rfl rfl
abbrev c_Wh_shift : ByteArray := prog_8_method_19_code
def y_Wh_shift : MethodName := ⟨"PotentialBench$Whole", "shift", "(LPotentialBench$Whole;I)V"⟩
set_option maxRecDepth 100000 in
theorem wc_Wh_shift : Cond.code y_Wh_shift c_Wh_shift 6 none ∈ gt := gq_3 207 rfl rfl
abbrev c_Wh_guess : ByteArray := prog_8_method_20_code
def y_Wh_guess : MethodName := ⟨"PotentialBench$Whole", "guess", "(LPotentialBench$Whole;II)J"⟩
set_option maxRecDepth 100000 in
theorem wc_Wh_guess : Cond.code y_Wh_guess c_Wh_guess 15 (some .long) ∈ gt := gq_3 211 rfl rfl
abbrev c_Wh_takeOff : ByteArray := prog_8_method_21_code
def y_Wh_takeOff : MethodName := ⟨"PotentialBench$Whole", "takeOff", "(LPotentialBench$Whole;IIJ)J"⟩
set_option maxRecDepth 100000 in
theorem wc_Wh_takeOff : Cond.code y_Wh_takeOff c_Wh_takeOff 9 (some .long) ∈ gt := gq_3 215 rfl rfl
abbrev c_So_swapUnknowns : ByteArray := prog_7_method_13_code
def y_So_swapUnknowns : MethodName := ⟨"PotentialBench$Solver", "swapUnknowns", "(II)V"⟩
set_option maxRecDepth 100000 in
theorem wc_So_swapUnknowns : Cond.code y_So_swapUnknowns c_So_swapUnknowns 5 none ∈ gt := gq_3 221 rfl rfl
abbrev c_Be_take : ByteArray := prog_2_method_2_code
def y_Be_take : MethodName := ⟨"PotentialBench$Best", "take", "(LPotentialBench$Solver;)V"⟩
set_option maxRecDepth 100000 in
theorem wc_Be_take : Cond.code y_Be_take c_Be_take 3 none ∈ gt := gq_3 225 rfl rfl
abbrev c_So_tell : ByteArray := prog_7_method_14_code
def y_So_tell : MethodName := ⟨"PotentialBench$Solver", "tell", "(ILPotentialBench$Whole;)V"⟩
set_option maxRecDepth 100000 in
theorem wc_So_tell : Cond.code y_So_tell c_So_tell 4 none ∈ gt := gq_3 230 rfl rfl
abbrev c_PB_told : ByteArray := prog_1_method_12_code
def y_PB_told : MethodName := ⟨"PotentialBench", "told", "(I)I"⟩
set_option maxRecDepth 100000 in
theorem wc_PB_told : Cond.code y_PB_told c_PB_told 2 (some .int) ∈ gt := gq_3 234 rfl rfl
abbrev c_PB_scaled : ByteArray := prog_1_method_13_code
def y_PB_scaled : MethodName := ⟨"PotentialBench", "scaled", "(II)J"⟩
set_option maxRecDepth 100000 in
theorem wc_PB_scaled : Cond.code y_PB_scaled c_PB_scaled 3 (some .long) ∈ gt := gq_3 238 rfl rfl
abbrev c_Be_has : ByteArray := prog_2_method_3_code
def y_Be_has : MethodName := ⟨"PotentialBench$Best", "has", "(I)Z"⟩
set_option maxRecDepth 100000 in
theorem wc_Be_has : Cond.code y_Be_has c_Be_has 2 (some .boolean) ∈ gt := gq_4 2 rfl rfl
abbrev c_Be_doubled : ByteArray := prog_2_method_4_code
def y_Be_doubled : MethodName := ⟨"PotentialBench$Best", "doubled", "(II)J"⟩
set_option maxRecDepth 100000 in
theorem wc_Be_doubled : Cond.code y_Be_doubled c_Be_doubled 3 (some .long) ∈ gt := gq_4 7 rfl rfl
abbrev c_Wh_lowest : ByteArray := prog_8_method_8_code
def y_Wh_lowest : MethodName := ⟨"PotentialBench$Whole", "lowest", "()J"⟩
set_option maxRecDepth 100000 in
theorem wc_Wh_lowest : Cond.code y_Wh_lowest c_Wh_lowest 4 (some .long) ∈ gt := gq_4 14 rfl rfl
abbrev c_PB_covers : ByteArray := prog_1_method_14_code
def y_PB_covers : MethodName := ⟨"PotentialBench", "covers", "(IIIJ)I"⟩
set_option maxRecDepth 100000 in
theorem wc_PB_covers : Cond.code y_PB_covers c_PB_covers 6 (some .int) ∈ gt := gq_4 18 rfl rfl
abbrev c_Be_reaches : ByteArray := prog_2_method_5_code
def y_Be_reaches : MethodName := ⟨"PotentialBench$Best", "reaches", "(IIIJ)Z"⟩
set_option maxRecDepth 100000 in
theorem wc_Be_reaches : Cond.code y_Be_reaches c_Be_reaches 6 (some .boolean) ∈ gt := gq_4 22 rfl rfl
abbrev c_Be_addTimes : ByteArray := prog_2_method_6_code
def y_Be_addTimes : MethodName := ⟨"PotentialBench$Best", "addTimes", "(II)V"⟩
set_option maxRecDepth 100000 in
theorem wc_Be_addTimes : Cond.code y_Be_addTimes c_Be_addTimes 3 none ∈ gt := gq_4 26 rfl rfl
abbrev c_Mo_init : ByteArray := prog_10_method_1_code
def y_Mo_init : MethodName := ⟨"PotentialBenchModel", "<init>", "()V"⟩
set_option maxRecDepth 100000 in
theorem wc_Mo_init : Cond.code y_Mo_init c_Mo_init 1 none ∈ gt := gq_4 33 rfl rfl
abbrev c_Mo_function : ByteArray := prog_10_method_2_code
def y_Mo_function : MethodName := ⟨"PotentialBenchModel", "function", "(I)I"⟩
set_option maxRecDepth 100000 in
theorem wc_Mo_function : Cond.code y_Mo_function c_Mo_function 2 (some .int) ∈ gt := gq_4 226 rfl rfl
abbrev c_Mo_word : ByteArray := prog_10_method_4_code
def y_Mo_word : MethodName := ⟨"PotentialBenchModel", "word", "(II)I"⟩
set_option maxRecDepth 100000 in
theorem wc_Mo_word : Cond.code y_Mo_word c_Mo_word 3 (some .int) ∈ gt := gq_4 230 rfl rfl
abbrev c_Mo_isFunction : ByteArray := prog_10_method_3_code
def y_Mo_isFunction : MethodName := ⟨"PotentialBenchModel", "isFunction", "(I)Z"⟩
set_option maxRecDepth 100000 in
theorem wc_Mo_isFunction : Cond.code y_Mo_isFunction c_Mo_isFunction 2 (some .boolean) ∈ gt := gq_4 234 rfl rfl
abbrev c_Mo_cut : ByteArray := prog_10_method_5_code
def y_Mo_cut : MethodName := ⟨"PotentialBenchModel", "cut", "(II)Z"⟩
set_option maxRecDepth 100000 in
theorem wc_Mo_cut : Cond.code y_Mo_cut c_Mo_cut 3 (some .boolean) ∈ gt := gq_4 238 rfl rfl
abbrev c_Mo_look : ByteArray := prog_10_method_12_code
def y_Mo_look : MethodName := ⟨"PotentialBenchModel", "look", "()I"⟩
set_option maxRecDepth 100000 in
theorem wc_Mo_look : Cond.code y_Mo_look c_Mo_look 3 (some .int) ∈ gt := gq_5 2 rfl rfl
abbrev c_Mo_wrong : ByteArray := prog_10_method_9_code
def y_Mo_wrong : MethodName := ⟨"PotentialBenchModel", "wrong", "(I)I"⟩
set_option maxRecDepth 100000 in
theorem wc_Mo_wrong : Cond.code y_Mo_wrong c_Mo_wrong 7 (some .int) ∈ gt := gq_5 6 rfl rfl
abbrev c_Mo_wrongHead : ByteArray := prog_10_method_8_code
def y_Mo_wrongHead : MethodName := ⟨"PotentialBenchModel", "wrongHead", "(III)I"⟩
set_option maxRecDepth 100000 in
theorem wc_Mo_wrongHead : Cond.code y_Mo_wrongHead c_Mo_wrongHead 9 (some .int) ∈ gt := gq_5 10 rfl rfl
abbrev c_Mo_headOf : ByteArray := prog_10_method_6_code
def y_Mo_headOf : MethodName := ⟨"PotentialBenchModel", "headOf", "(II)I"⟩
set_option maxRecDepth 100000 in
theorem wc_Mo_headOf : Cond.code y_Mo_headOf c_Mo_headOf 4 (some .int) ∈ gt := gq_5 14 rfl rfl
abbrev c_Mo_close : ByteArray := prog_10_method_10_code
def y_Mo_close : MethodName := ⟨"PotentialBenchModel", "close", "(II)Z"⟩
set_option maxRecDepth 100000 in
theorem wc_Mo_close : Cond.code y_Mo_close c_Mo_close 3 (some .boolean) ∈ gt := gq_5 18 rfl rfl
abbrev c_Mo_partsOf : ByteArray := prog_10_method_7_code
def y_Mo_partsOf : MethodName := ⟨"PotentialBenchModel", "partsOf", "(I)I"⟩
set_option maxRecDepth 100000 in
theorem wc_Mo_partsOf : Cond.code y_Mo_partsOf c_Mo_partsOf 1 (some .int) ∈ gt := gq_5 21 rfl rfl
abbrev c_Mo_knownBehind : ByteArray := prog_10_method_11_code
def y_Mo_knownBehind : MethodName := ⟨"PotentialBenchModel", "knownBehind", "(I)I"⟩
set_option maxRecDepth 100000 in
theorem wc_Mo_knownBehind : Cond.code y_Mo_knownBehind c_Mo_knownBehind 4 (some .int) ∈ gt := gq_5 25 rfl rfl
abbrev c_Mo_place : ByteArray := prog_10_method_13_code
def y_Mo_place : MethodName := ⟨"PotentialBenchModel", "place", "()I"⟩
set_option maxRecDepth 100000 in
theorem wc_Mo_place : Cond.code y_Mo_place c_Mo_place 1 (some .int) ∈ gt := gq_5 29 rfl rfl
abbrev c_Mo_run : ByteArray := prog_10_method_19_code
def y_Mo_run : MethodName := ⟨"PotentialBenchModel", "run", "(IIII)I"⟩
set_option maxRecDepth 100000 in
theorem wc_Mo_run : Cond.code y_Mo_run c_Mo_run 7 (some .int) ∈ gt := gq_5 33 rfl rfl
abbrev c_Mo_isRight : ByteArray := prog_10_method_14_code
def y_Mo_isRight : MethodName := ⟨"PotentialBenchModel", "isRight", "()Z"⟩
set_option maxRecDepth 100000 in
theorem wc_Mo_isRight : Cond.code y_Mo_isRight c_Mo_isRight 3 (some .boolean) ∈ gt := gq_5 37 rfl rfl
abbrev c_Mo_enter : ByteArray := prog_10_method_16_code
def y_Mo_enter : MethodName := ⟨"PotentialBenchModel", "enter", "(II)V"⟩
set_option maxRecDepth 100000 in
theorem wc_Mo_enter : Cond.code y_Mo_enter c_Mo_enter 3 none ∈ gt := gq_5 41 rfl rfl
abbrev c_Mo_beginOne : ByteArray := prog_10_method_17_code
def y_Mo_beginOne : MethodName := ⟨"PotentialBenchModel", "beginOne", "()V"⟩
set_option maxRecDepth 100000 in
theorem wc_Mo_beginOne : Cond.code y_Mo_beginOne c_Mo_beginOne 6 none ∈ gt := gq_5 45 rfl rfl
abbrev c_Mo_wait : ByteArray := prog_10_method_15_code
def y_Mo_wait : MethodName := ⟨"PotentialBenchModel", "wait", "(II)V"⟩
set_option maxRecDepth 100000 in
theorem wc_Mo_wait : Cond.code y_Mo_wait c_Mo_wait 3 none ∈ gt := gq_5 49 rfl rfl
abbrev c_Mo_giveOn : ByteArray := prog_10_method_18_code
def y_Mo_giveOn : MethodName := ⟨"PotentialBenchModel", "giveOn", "()V"⟩
set_option maxRecDepth 100000 in
theorem wc_Mo_giveOn : Cond.code y_Mo_giveOn c_Mo_giveOn 1 none ∈ gt := gq_5 53 rfl rfl
abbrev c_Mo_cost : ByteArray := prog_10_method_20_code
def y_Mo_cost : MethodName := ⟨"PotentialBenchModel", "cost", "()J"⟩
set_option maxRecDepth 100000 in
theorem wc_Mo_cost : Cond.code y_Mo_cost c_Mo_cost 1 (some .long) ∈ gt := gq_5 57 rfl rfl
abbrev c_Mo_given : ByteArray := prog_10_method_21_code
def y_Mo_given : MethodName := ⟨"PotentialBenchModel", "given", "()I"⟩
set_option maxRecDepth 100000 in
theorem wc_Mo_given : Cond.code y_Mo_given c_Mo_given 1 (some .int) ∈ gt := gq_5 61 rfl rfl
abbrev c_Mo_steps : ByteArray := prog_10_method_22_code
def y_Mo_steps : MethodName := ⟨"PotentialBenchModel", "steps", "()I"⟩
set_option maxRecDepth 100000 in
theorem wc_Mo_steps : Cond.code y_Mo_steps c_Mo_steps 1 (some .int) ∈ gt := gq_5 65 rfl rfl
abbrev c_Mo_bound : ByteArray := prog_10_method_70_code
def y_Mo_bound : MethodName := ⟨"PotentialBenchModel", "bound", "(I)I"⟩
set_option maxRecDepth 100000 in
theorem wc_Mo_bound : Cond.code y_Mo_bound c_Mo_bound 3 (some .int) ∈ gt := gq_5 69 rfl rfl
abbrev c_Mo_needBody : ByteArray := prog_10_method_43_code
def y_Mo_needBody : MethodName := ⟨"PotentialBenchModel", "needBody", "(I)V"⟩
set_option maxRecDepth 100000 in
theorem wc_Mo_needBody : Cond.code y_Mo_needBody c_Mo_needBody 4 none ∈ gt := gq_5 73 rfl rfl
abbrev c_Mo_line : ByteArray := prog_10_method_23_code
def y_Mo_line : MethodName := ⟨"PotentialBenchModel", "line", "(II)I"⟩
set_option maxRecDepth 100000 in
theorem wc_Mo_line : Cond.code y_Mo_line c_Mo_line 2 (some .int) ∈ gt := gq_5 76 rfl rfl
abbrev c_Mo_clear : ByteArray := prog_10_method_25_code
def y_Mo_clear : MethodName := ⟨"PotentialBenchModel", "clear", "(I)V"⟩
set_option maxRecDepth 100000 in
theorem wc_Mo_clear : Cond.code y_Mo_clear c_Mo_clear 3 none ∈ gt := gq_5 80 rfl rfl
abbrev c_Mo_unknown : ByteArray := prog_10_method_30_code
def y_Mo_unknown : MethodName := ⟨"PotentialBenchModel", "unknown", "(II)I"⟩
set_option maxRecDepth 100000 in
theorem wc_Mo_unknown : Cond.code y_Mo_unknown c_Mo_unknown 3 (some .int) ∈ gt := gq_5 84 rfl rfl
abbrev c_Mo_needOf : ByteArray := prog_10_method_40_code
def y_Mo_needOf : MethodName := ⟨"PotentialBenchModel", "needOf", "(III)I"⟩
set_option maxRecDepth 100000 in
theorem wc_Mo_needOf : Cond.code y_Mo_needOf c_Mo_needOf 6 (some .int) ∈ gt := gq_5 88 rfl rfl
abbrev c_Mo_openNeed : ByteArray := prog_10_method_35_code
def y_Mo_openNeed : MethodName := ⟨"PotentialBenchModel", "openNeed", "(IIII)V"⟩
set_option maxRecDepth 100000 in
theorem wc_Mo_openNeed : Cond.code y_Mo_openNeed c_Mo_openNeed 5 none ∈ gt := gq_5 92 rfl rfl
abbrev c_Mo_newBlock : ByteArray := prog_10_method_33_code
def y_Mo_newBlock : MethodName := ⟨"PotentialBenchModel", "newBlock", "(II)I"⟩
set_option maxRecDepth 100000 in
theorem wc_Mo_newBlock : Cond.code y_Mo_newBlock c_Mo_newBlock 5 (some .int) ∈ gt := gq_5 96 rfl rfl
abbrev c_Mo_copy : ByteArray := prog_10_method_24_code
def y_Mo_copy : MethodName := ⟨"PotentialBenchModel", "copy", "(II)V"⟩
set_option maxRecDepth 100000 in
theorem wc_Mo_copy : Cond.code y_Mo_copy c_Mo_copy 4 none ∈ gt := gq_5 100 rfl rfl
abbrev c_Mo_firstOf : ByteArray := prog_10_method_36_code
def y_Mo_firstOf : MethodName := ⟨"PotentialBenchModel", "firstOf", "(IIII)V"⟩
set_option maxRecDepth 100000 in
theorem wc_Mo_firstOf : Cond.code y_Mo_firstOf c_Mo_firstOf 8 none ∈ gt := gq_5 104 rfl rfl
abbrev c_Mo_add : ByteArray := prog_10_method_26_code
def y_Mo_add : MethodName := ⟨"PotentialBenchModel", "add", "(II)V"⟩
set_option maxRecDepth 100000 in
theorem wc_Mo_add : Cond.code y_Mo_add c_Mo_add 4 none ∈ gt := gq_5 108 rfl rfl
abbrev c_Mo_needCall : ByteArray := prog_10_method_41_code
def y_Mo_needCall : MethodName := ⟨"PotentialBenchModel", "needCall", "(III)V"⟩
set_option maxRecDepth 100000 in
theorem wc_Mo_needCall : Cond.code y_Mo_needCall c_Mo_needCall 7 none ∈ gt := gq_5 112 rfl rfl
abbrev c_Mo_newUnknown : ByteArray := prog_10_method_27_code
def y_Mo_newUnknown : MethodName := ⟨"PotentialBenchModel", "newUnknown", "()I"⟩
set_option maxRecDepth 100000 in
theorem wc_Mo_newUnknown : Cond.code y_Mo_newUnknown c_Mo_newUnknown 1 (some .int) ∈ gt := gq_5 116 rfl rfl
abbrev c_Mo_newCondition : ByteArray := prog_10_method_28_code
def y_Mo_newCondition : MethodName := ⟨"PotentialBenchModel", "newCondition", "()I"⟩
set_option maxRecDepth 100000 in
theorem wc_Mo_newCondition : Cond.code y_Mo_newCondition c_Mo_newCondition 3 (some .int) ∈ gt := gq_5 120 rfl rfl
abbrev c_Mo_take : ByteArray := prog_10_method_29_code
def y_Mo_take : MethodName := ⟨"PotentialBenchModel", "take", "(II)V"⟩
set_option maxRecDepth 100000 in
theorem wc_Mo_take : Cond.code y_Mo_take c_Mo_take 4 none ∈ gt := gq_5 124 rfl rfl
abbrev c_Mo_atLeast : ByteArray := prog_10_method_31_code
def y_Mo_atLeast : MethodName := ⟨"PotentialBenchModel", "atLeast", "(II)V"⟩
set_option maxRecDepth 100000 in
theorem wc_Mo_atLeast : Cond.code y_Mo_atLeast c_Mo_atLeast 4 none ∈ gt := gq_5 128 rfl rfl
abbrev c_Mo_endNeed : ByteArray := prog_10_method_37_code
def y_Mo_endNeed : MethodName := ⟨"PotentialBenchModel", "endNeed", "()V"⟩
set_option maxRecDepth 100000 in
theorem wc_Mo_endNeed : Cond.code y_Mo_endNeed c_Mo_endNeed 1 none ∈ gt := gq_5 132 rfl rfl
abbrev c_Mo_secondOf : ByteArray := prog_10_method_38_code
def y_Mo_secondOf : MethodName := ⟨"PotentialBenchModel", "secondOf", "(IIII)V"⟩
set_option maxRecDepth 100000 in
theorem wc_Mo_secondOf : Cond.code y_Mo_secondOf c_Mo_secondOf 7 none ∈ gt := gq_5 136 rfl rfl
abbrev c_Mo_keepAll : ByteArray := prog_10_method_34_code
def y_Mo_keepAll : MethodName := ⟨"PotentialBenchModel", "keepAll", "(II)V"⟩
set_option maxRecDepth 100000 in
theorem wc_Mo_keepAll : Cond.code y_Mo_keepAll c_Mo_keepAll 4 none ∈ gt := gq_5 140 rfl rfl
abbrev c_Mo_thirdOf : ByteArray := prog_10_method_39_code
def y_Mo_thirdOf : MethodName := ⟨"PotentialBenchModel", "thirdOf", "(IIII)V"⟩
set_option maxRecDepth 100000 in
theorem wc_Mo_thirdOf : Cond.code y_Mo_thirdOf c_Mo_thirdOf 7 none ∈ gt := gq_5 144 rfl rfl
abbrev c_Mo_needMatch : ByteArray := prog_10_method_42_code
def y_Mo_needMatch : MethodName := ⟨"PotentialBenchModel", "needMatch", "(IIIIII)V"⟩
set_option maxRecDepth 100000 in
theorem wc_Mo_needMatch : Cond.code y_Mo_needMatch c_Mo_needMatch 14 none ∈ gt := gq_5 148 rfl rfl
abbrev c_Mo_isNamed : ByteArray := prog_10_method_32_code
def y_Mo_isNamed : MethodName := ⟨"PotentialBenchModel", "isNamed", "(IIII)Z"⟩
set_option maxRecDepth 100000 in
theorem wc_Mo_isNamed : Cond.code y_Mo_isNamed c_Mo_isNamed 9 (some .boolean) ∈ gt := gq_5 152 rfl rfl
abbrev c_Mo_lay : ByteArray := prog_10_method_64_code
def y_Mo_lay : MethodName := ⟨"PotentialBenchModel", "lay", "(I)V"⟩
set_option maxRecDepth 100000 in
theorem wc_Mo_lay : Cond.code y_Mo_lay c_Mo_lay 4 none ∈ gt := gq_5 156 rfl rfl
abbrev c_Mo_put : ByteArray := prog_10_method_58_code
def y_Mo_put : MethodName := ⟨"PotentialBenchModel", "put", "(IJ)V"⟩
set_option maxRecDepth 100000 in
theorem wc_Mo_put : Cond.code y_Mo_put c_Mo_put 7 none ∈ gt := gq_5 160 rfl rfl
abbrev c_Mo_at : ByteArray := prog_10_method_57_code
def y_Mo_at : MethodName := ⟨"PotentialBenchModel", "at", "(II)I"⟩
set_option maxRecDepth 100000 in
theorem wc_Mo_at : Cond.code y_Mo_at c_Mo_at 2 (some .int) ∈ gt := gq_5 164 rfl rfl
abbrev c_Mo_reach : ByteArray := prog_10_method_68_code
def y_Mo_reach : MethodName := ⟨"PotentialBenchModel", "reach", "()Z"⟩
set_option maxRecDepth 100000 in
theorem wc_Mo_reach : Cond.code y_Mo_reach c_Mo_reach 5 (some .boolean) ∈ gt := gq_5 168 rfl rfl
abbrev c_Mo_exchange : ByteArray := prog_10_method_61_code
def y_Mo_exchange : MethodName := ⟨"PotentialBenchModel", "exchange", "(II)V"⟩
set_option maxRecDepth 100000 in
theorem wc_Mo_exchange : Cond.code y_Mo_exchange c_Mo_exchange 6 none ∈ gt := gq_5 172 rfl rfl
abbrev c_Mo_signOf : ByteArray := prog_10_method_59_code
def y_Mo_signOf : MethodName := ⟨"PotentialBenchModel", "signOf", "(I)I"⟩
set_option maxRecDepth 100000 in
theorem wc_Mo_signOf : Cond.code y_Mo_signOf c_Mo_signOf 2 (some .int) ∈ gt := gq_5 176 rfl rfl
abbrev c_Mo_rowBy : ByteArray := prog_10_method_63_code
def y_Mo_rowBy : MethodName := ⟨"PotentialBenchModel", "rowBy", "(IIIZ)V"⟩
set_option maxRecDepth 100000 in
theorem wc_Mo_rowBy : Cond.code y_Mo_rowBy c_Mo_rowBy 9 none ∈ gt := gq_5 180 rfl rfl
abbrev c_Mo_turn : ByteArray := prog_10_method_60_code
def y_Mo_turn : MethodName := ⟨"PotentialBenchModel", "turn", "(I)V"⟩
set_option maxRecDepth 100000 in
theorem wc_Mo_turn : Cond.code y_Mo_turn c_Mo_turn 2 none ∈ gt := gq_5 184 rfl rfl
abbrev c_Mo_products : ByteArray := prog_10_method_47_code
def y_Mo_products : MethodName := ⟨"PotentialBenchModel", "products", "(IIII)V"⟩
set_option maxRecDepth 100000 in
theorem wc_Mo_products : Cond.code y_Mo_products c_Mo_products 5 none ∈ gt := gq_5 188 rfl rfl
abbrev c_Mo_times : ByteArray := prog_10_method_44_code
def y_Mo_times : MethodName := ⟨"PotentialBenchModel", "times", "(II[I)I"⟩
set_option maxRecDepth 100000 in
theorem wc_Mo_times : Cond.code y_Mo_times c_Mo_times 14 (some .int) ∈ gt := gq_5 192 rfl rfl
abbrev c_Mo_cut2 : ByteArray := prog_10_method_45_code
def y_Mo_cut2 : MethodName := ⟨"PotentialBenchModel", "cut", "([II)I"⟩
set_option maxRecDepth 100000 in
theorem wc_Mo_cut2 : Cond.code y_Mo_cut2 c_Mo_cut2 3 (some .int) ∈ gt := gq_5 195 rfl rfl
abbrev c_Mo_join : ByteArray := prog_10_method_49_code
def y_Mo_join : MethodName := ⟨"PotentialBenchModel", "join", "()V"⟩
set_option maxRecDepth 100000 in
theorem wc_Mo_join : Cond.code y_Mo_join c_Mo_join 1 none ∈ gt := gq_5 199 rfl rfl
abbrev c_Mo_addRows : ByteArray := prog_10_method_50_code
def y_Mo_addRows : MethodName := ⟨"PotentialBenchModel", "addRows", "()V"⟩
set_option maxRecDepth 100000 in
theorem wc_Mo_addRows : Cond.code y_Mo_addRows c_Mo_addRows 5 none ∈ gt := gq_5 203 rfl rfl
abbrev c_Mo_compare : ByteArray := prog_10_method_46_code
def y_Mo_compare : MethodName := ⟨"PotentialBenchModel", "compare", "([II[II)I"⟩
set_option maxRecDepth 100000 in
theorem wc_Mo_compare : Cond.code y_Mo_compare c_Mo_compare 5 (some .int) ∈ gt := gq_5 207 rfl rfl
abbrev c_Mo_subtract : ByteArray := prog_10_method_51_code
def y_Mo_subtract : MethodName := ⟨"PotentialBenchModel", "subtract", "([II[II[I)V"⟩
set_option maxRecDepth 100000 in
theorem wc_Mo_subtract : Cond.code y_Mo_subtract c_Mo_subtract 8 none ∈ gt := gq_5 210 rfl rfl
abbrev c_Mo_divide : ByteArray := prog_10_method_52_code
def y_Mo_divide : MethodName := ⟨"PotentialBenchModel", "divide", "(I)V"⟩
set_option maxRecDepth 100000 in
theorem wc_Mo_divide : Cond.code y_Mo_divide c_Mo_divide 6 none ∈ gt := gq_5 214 rfl rfl
abbrev c_Mo_shiftInto : ByteArray := prog_10_method_53_code
def y_Mo_shiftInto : MethodName := ⟨"PotentialBenchModel", "shiftInto", "(III)V"⟩
set_option maxRecDepth 100000 in
theorem wc_Mo_shiftInto : Cond.code y_Mo_shiftInto c_Mo_shiftInto 7 none ∈ gt := gq_5 219 rfl rfl
abbrev c_Mo_raise : ByteArray := prog_10_method_54_code
def y_Mo_raise : MethodName := ⟨"PotentialBenchModel", "raise", "(I)V"⟩
set_option maxRecDepth 100000 in
theorem wc_Mo_raise : Cond.code y_Mo_raise c_Mo_raise 5 none ∈ gt := gq_5 223 rfl rfl
abbrev c_Mo_digit : ByteArray := prog_10_method_55_code
def y_Mo_digit : MethodName := ⟨"PotentialBenchModel", "digit", "(II)I"⟩
set_option maxRecDepth 100000 in
theorem wc_Mo_digit : Cond.code y_Mo_digit c_Mo_digit 14 (some .int) ∈ gt := gq_5 227 rfl rfl
abbrev c_Mo_keepQuotient : ByteArray := prog_10_method_56_code
def y_Mo_keepQuotient : MethodName := ⟨"PotentialBenchModel", "keepQuotient", "(IZ)V"⟩
set_option maxRecDepth 100000 in
theorem wc_Mo_keepQuotient : Cond.code y_Mo_keepQuotient c_Mo_keepQuotient 4 none ∈ gt := gq_5 232 rfl rfl
abbrev c_Mo_swapOne : ByteArray := prog_10_method_62_code
def y_Mo_swapOne : MethodName := ⟨"PotentialBenchModel", "swapOne", "(IZ)V"⟩
set_option maxRecDepth 100000 in
theorem wc_Mo_swapOne : Cond.code y_Mo_swapOne c_Mo_swapOne 6 none ∈ gt := gq_5 236 rfl rfl
abbrev c_Mo_coming : ByteArray := prog_10_method_67_code
def y_Mo_coming : MethodName := ⟨"PotentialBenchModel", "coming", "(II)I"⟩
set_option maxRecDepth 100000 in
theorem wc_Mo_coming : Cond.code y_Mo_coming c_Mo_coming 6 (some .int) ∈ gt := gq_6 1 rfl rfl
abbrev c_Mo_giving : ByteArray := prog_10_method_65_code
def y_Mo_giving : MethodName := ⟨"PotentialBenchModel", "giving", "(I)I"⟩
set_option maxRecDepth 100000 in
theorem wc_Mo_giving : Cond.code y_Mo_giving c_Mo_giving 5 (some .int) ∈ gt := gq_6 5 rfl rfl
abbrev c_Mo_shareOf : ByteArray := prog_10_method_66_code
def y_Mo_shareOf : MethodName := ⟨"PotentialBenchModel", "shareOf", "(III)I"⟩
set_option maxRecDepth 100000 in
theorem wc_Mo_shareOf : Cond.code y_Mo_shareOf c_Mo_shareOf 4 (some .int) ∈ gt := gq_6 9 rfl rfl
abbrev c_Mo_compareProducts : ByteArray := prog_10_method_48_code
def y_Mo_compareProducts : MethodName := ⟨"PotentialBenchModel", "compareProducts", "(IIII)I"⟩
set_option maxRecDepth 100000 in
theorem wc_Mo_compareProducts : Cond.code y_Mo_compareProducts c_Mo_compareProducts 5 (some .int) ∈ gt := gq_6 13 rfl rfl
abbrev c_Mo_improve : ByteArray := prog_10_method_69_code
def y_Mo_improve : MethodName := ⟨"PotentialBenchModel", "improve", "()V"⟩
set_option maxRecDepth 100000 in
theorem wc_Mo_improve : Cond.code y_Mo_improve c_Mo_improve 2 none ∈ gt := gq_6 17 rfl rfl
abbrev c_Mo_told : ByteArray := prog_10_method_71_code
def y_Mo_told : MethodName := ⟨"PotentialBenchModel", "told", "(I)I"⟩
set_option maxRecDepth 100000 in
theorem wc_Mo_told : Cond.code y_Mo_told c_Mo_told 2 (some .int) ∈ gt := gq_6 21 rfl rfl
abbrev c_Mo_scaled : ByteArray := prog_10_method_73_code
def y_Mo_scaled : MethodName := ⟨"PotentialBenchModel", "scaled", "(II)J"⟩
set_option maxRecDepth 100000 in
theorem wc_Mo_scaled : Cond.code y_Mo_scaled c_Mo_scaled 6 (some .long) ∈ gt := gq_6 25 rfl rfl
abbrev c_Mo_boundAt : ByteArray := prog_10_method_72_code
def y_Mo_boundAt : MethodName := ⟨"PotentialBenchModel", "boundAt", "(I)I"⟩
set_option maxRecDepth 100000 in
theorem wc_Mo_boundAt : Cond.code y_Mo_boundAt c_Mo_boundAt 3 (some .int) ∈ gt := gq_6 29 rfl rfl
abbrev c_Mo_covers : ByteArray := prog_10_method_75_code
def y_Mo_covers : MethodName := ⟨"PotentialBenchModel", "covers", "(IIIJ)I"⟩
set_option maxRecDepth 100000 in
theorem wc_Mo_covers : Cond.code y_Mo_covers c_Mo_covers 8 (some .int) ∈ gt := gq_6 34 rfl rfl
abbrev c_Mo_sum : ByteArray := prog_10_method_74_code
def y_Mo_sum : MethodName := ⟨"PotentialBenchModel", "sum", "(IIIII)V"⟩
set_option maxRecDepth 100000 in
theorem wc_Mo_sum : Cond.code y_Mo_sum c_Mo_sum 7 none ∈ gt := gq_6 38 rfl rfl
set_option maxRecDepth 100000 in
theorem wz_La : Cond.initialized "PotentialBenchLaw" ∈ gt := gq_1 0 rfl rfl
set_option maxRecDepth 100000 in
theorem wz_PB : Cond.initialized "PotentialBench" ∈ gt := gq_1 1 rfl rfl
set_option maxRecDepth 100000 in
theorem wz_So : Cond.initialized "PotentialBench$Solver" ∈ gt := gq_1 2 rfl rfl
set_option maxRecDepth 100000 in
theorem wz_Wh : Cond.initialized "PotentialBench$Whole" ∈ gt := gq_1 3 rfl rfl
set_option maxRecDepth 100000 in
theorem wz_Be : Cond.initialized "PotentialBench$Best" ∈ gt := gq_1 4 rfl rfl
set_option maxRecDepth 100000 in
theorem wz_Bo : Cond.initialized "PotentialBench$Body" ∈ gt := gq_1 5 rfl rfl
set_option maxRecDepth 100000 in
theorem wz_Re : Cond.initialized "PotentialBench$Reader" ∈ gt := gq_1 6 rfl rfl
set_option maxRecDepth 100000 in
theorem wz_Ru : Cond.initialized "PotentialBench$Runner" ∈ gt := gq_1 7 rfl rfl
set_option maxRecDepth 100000 in
theorem wz_Ne : Cond.initialized "PotentialBench$Needs" ∈ gt := gq_1 8 rfl rfl
set_option maxRecDepth 100000 in
theorem wz_Mo : Cond.initialized "PotentialBenchModel" ∈ gt := gq_1 9 rfl rfl
set_option maxRecDepth 100000 in
theorem wz_JA : Cond.initialized "java/util/Arrays" ∈ gt := gq_1 10 rfl rfl
set_option maxRecDepth 100000 in
theorem wz_JI : Cond.initialized "java/lang/Integer" ∈ gt := gq_1 11 rfl rfl
set_option maxRecDepth 100000 in
theorem wz_JS : Cond.initialized "java/lang/System" ∈ gt := gq_1 12 rfl rfl
set_option maxRecDepth 100000 in
theorem wz_JL : Cond.initialized "java/lang/Long" ∈ gt := gq_1 13 rfl rfl
set_option maxRecDepth 100000 in
theorem wz_JM : Cond.initialized "java/lang/Math" ∈ gt := gq_1 14 rfl rfl
set_option maxRecDepth 100000 in
theorem wl_La_7 : Cond.classLink "PotentialBenchLaw" 7 "PotentialBench" ∈ gt := gq_1 15 rfl rfl
set_option maxRecDepth 100000 in
theorem wi_PB : Cond.instantiable "PotentialBench" 9 ∈ gt := gq_1 16 rfl rfl
set_option maxRecDepth 100000 in
theorem wm_La_9 : Cond.methodLink "PotentialBenchLaw" 9 y_PB_init ∈ gt := gq_1 17 rfl rfl
set_option maxRecDepth 100000 in
theorem wn_PB_init : Cond.instanceMethod y_PB_init ∈ gt := gq_1 18 rfl rfl
set_option maxRecDepth 100000 in
theorem wm_PB_3 : Cond.methodLink "PotentialBench" 3 Lib.objectInit ∈ gt := gq_1 20 rfl rfl
set_option maxRecDepth 100000 in
theorem wn_JO_init : Cond.instanceMethod Lib.objectInit ∈ gt := gq_1 21 rfl rfl
set_option maxRecDepth 100000 in
theorem wl_PB_9 : Cond.classLink "PotentialBench" 9 "PotentialBench$Body" ∈ gt := gq_1 23 rfl rfl
set_option maxRecDepth 100000 in
theorem xa_Bo : Cond.arrayOver (.object "PotentialBench$Body") ∈ tables_1 := tq_1 (List.mem_of_getElem? (i := 24) rfl)
set_option maxRecDepth 100000 in
theorem wl_PB_15 : Cond.classLink "PotentialBench" 15 "PotentialBench$Solver" ∈ gt := gq_1 25 rfl rfl
set_option maxRecDepth 100000 in
theorem wi_So : Cond.instantiable "PotentialBench$Solver" 14 ∈ gt := gq_1 26 rfl rfl
set_option maxRecDepth 100000 in
theorem xm_PB_17 : Cond.methodLinkNest "PotentialBench" 17 y_So_init "PotentialBench" ∈ tables_1 := tq_1 (List.mem_of_getElem? (i := 27) rfl)
set_option maxRecDepth 100000 in
theorem wn_So_init : Cond.instanceMethod y_So_init ∈ gt := gq_1 28 rfl rfl
set_option maxRecDepth 100000 in
theorem wm_So_3 : Cond.methodLink "PotentialBench$Solver" 3 Lib.objectInit ∈ gt := gq_1 30 rfl rfl
set_option maxRecDepth 100000 in
theorem wl_So_9 : Cond.classLink "PotentialBench$Solver" 9 "PotentialBench$Whole" ∈ gt := gq_1 31 rfl rfl
set_option maxRecDepth 100000 in
theorem xa_Wh : Cond.arrayOver (.object "PotentialBench$Whole") ∈ tables_1 := tq_1 (List.mem_of_getElem? (i := 32) rfl)
set_option maxRecDepth 100000 in
theorem wi_Wh : Cond.instantiable "PotentialBench$Whole" 3 ∈ gt := gq_1 33 rfl rfl
set_option maxRecDepth 100000 in
theorem wm_So_30 : Cond.methodLink "PotentialBench$Solver" 30 y_Wh_init ∈ gt := gq_1 34 rfl rfl
set_option maxRecDepth 100000 in
theorem wn_Wh_init : Cond.instanceMethod y_Wh_init ∈ gt := gq_1 35 rfl rfl
set_option maxRecDepth 100000 in
theorem wm_Wh_3 : Cond.methodLink "PotentialBench$Whole" 3 Lib.objectInit ∈ gt := gq_1 37 rfl rfl
set_option maxRecDepth 100000 in
theorem wf_Wh_9 : Cond.fieldLink "PotentialBench$Whole" 9 "PotentialBench$Whole" "digits" "[I" ∈ gt := gq_1 38 rfl rfl
set_option maxRecDepth 100000 in
theorem wf_Wh_29 : Cond.fieldLink "PotentialBench$Whole" 29 "PotentialBench$Whole" "size" "I" ∈ gt := gq_1 39 rfl rfl
set_option maxRecDepth 100000 in
theorem wf_Wh_19 : Cond.fieldLink "PotentialBench$Whole" 19 "PotentialBench$Whole" "sign" "I" ∈ gt := gq_1 40 rfl rfl
set_option maxRecDepth 100000 in
theorem wa_int : Cond.arrayClass .int ∈ gt := gq_1 48 rfl rfl
set_option maxRecDepth 100000 in
theorem wf_So_11 : Cond.fieldLink "PotentialBench$Solver" 11 "PotentialBench$Solver" "cells" "[LPotentialBench$Whole;" ∈ gt := gq_1 49 rfl rfl
set_option maxRecDepth 100000 in
theorem wf_So_17 : Cond.fieldLink "PotentialBench$Solver" 17 "PotentialBench$Solver" "rowOf" "[I" ∈ gt := gq_1 50 rfl rfl
set_option maxRecDepth 100000 in
theorem wf_So_21 : Cond.fieldLink "PotentialBench$Solver" 21 "PotentialBench$Solver" "columnOf" "[I" ∈ gt := gq_1 51 rfl rfl
set_option maxRecDepth 100000 in
theorem wf_So_24 : Cond.fieldLink "PotentialBench$Solver" 24 "PotentialBench$Solver" "unknownOfRow" "[I" ∈ gt := gq_1 52 rfl rfl
set_option maxRecDepth 100000 in
theorem wf_So_27 : Cond.fieldLink "PotentialBench$Solver" 27 "PotentialBench$Solver" "unknownOfColumn" "[I" ∈ gt := gq_1 53 rfl rfl
set_option maxRecDepth 100000 in
theorem wf_So_31 : Cond.fieldLink "PotentialBench$Solver" 31 "PotentialBench$Solver" "under" "LPotentialBench$Whole;" ∈ gt := gq_1 54 rfl rfl
set_option maxRecDepth 100000 in
theorem xf_Be_45 : Cond.fieldLinkNest "PotentialBench$Best" 45 "PotentialBench$Solver" "under" "LPotentialBench$Whole;" "PotentialBench" ∈ tables_1 := tq_1 (List.mem_of_getElem? (i := 55) rfl)
set_option maxRecDepth 100000 in
theorem wf_So_35 : Cond.fieldLink "PotentialBench$Solver" 35 "PotentialBench$Solver" "pivot" "LPotentialBench$Whole;" ∈ gt := gq_1 56 rfl rfl
set_option maxRecDepth 100000 in
theorem wf_So_38 : Cond.fieldLink "PotentialBench$Solver" 38 "PotentialBench$Solver" "left" "LPotentialBench$Whole;" ∈ gt := gq_1 57 rfl rfl
set_option maxRecDepth 100000 in
theorem wf_So_41 : Cond.fieldLink "PotentialBench$Solver" 41 "PotentialBench$Solver" "right" "LPotentialBench$Whole;" ∈ gt := gq_1 58 rfl rfl
set_option maxRecDepth 100000 in
theorem wf_So_44 : Cond.fieldLink "PotentialBench$Solver" 44 "PotentialBench$Solver" "rest" "LPotentialBench$Whole;" ∈ gt := gq_1 59 rfl rfl
set_option maxRecDepth 100000 in
theorem wf_So_70 : Cond.fieldLink "PotentialBench$Solver" 70 "PotentialBench$Solver" "rows" "I" ∈ gt := gq_1 60 rfl rfl
set_option maxRecDepth 100000 in
theorem wf_So_59 : Cond.fieldLink "PotentialBench$Solver" 59 "PotentialBench$Solver" "columns" "I" ∈ gt := gq_1 61 rfl rfl
set_option maxRecDepth 100000 in
theorem wf_So_47 : Cond.fieldLink "PotentialBench$Solver" 47 "PotentialBench$Solver" "firstSought" "I" ∈ gt := gq_1 62 rfl rfl
set_option maxRecDepth 100000 in
theorem wf_So_51 : Cond.fieldLink "PotentialBench$Solver" 51 "PotentialBench$Solver" "takes" "I" ∈ gt := gq_1 63 rfl rfl
set_option maxRecDepth 100000 in
theorem xf_Be_38 : Cond.fieldLinkNest "PotentialBench$Best" 38 "PotentialBench$Solver" "takes" "I" "PotentialBench" ∈ tables_1 := tq_1 (List.mem_of_getElem? (i := 64) rfl)
set_option maxRecDepth 100000 in
theorem wl_PB_22 : Cond.classLink "PotentialBench" 22 "PotentialBench$Best" ∈ gt := gq_1 94 rfl rfl
set_option maxRecDepth 100000 in
theorem wi_Be : Cond.instantiable "PotentialBench$Best" 8 ∈ gt := gq_1 95 rfl rfl
set_option maxRecDepth 100000 in
theorem xm_PB_24 : Cond.methodLinkNest "PotentialBench" 24 y_Be_init "PotentialBench" ∈ tables_1 := tq_1 (List.mem_of_getElem? (i := 96) rfl)
set_option maxRecDepth 100000 in
theorem wn_Be_init : Cond.instanceMethod y_Be_init ∈ gt := gq_1 97 rfl rfl
set_option maxRecDepth 100000 in
theorem wm_Be_3 : Cond.methodLink "PotentialBench$Best" 3 Lib.objectInit ∈ gt := gq_1 99 rfl rfl
set_option maxRecDepth 100000 in
theorem wl_Be_9 : Cond.classLink "PotentialBench$Best" 9 "PotentialBench$Whole" ∈ gt := gq_1 100 rfl rfl
set_option maxRecDepth 100000 in
theorem wm_Be_17 : Cond.methodLink "PotentialBench$Best" 17 y_Wh_init ∈ gt := gq_1 101 rfl rfl
set_option maxRecDepth 100000 in
theorem wf_Be_11 : Cond.fieldLink "PotentialBench$Best" 11 "PotentialBench$Best" "parts" "[LPotentialBench$Whole;" ∈ gt := gq_1 102 rfl rfl
set_option maxRecDepth 100000 in
theorem wf_Be_18 : Cond.fieldLink "PotentialBench$Best" 18 "PotentialBench$Best" "under" "LPotentialBench$Whole;" ∈ gt := gq_1 103 rfl rfl
set_option maxRecDepth 100000 in
theorem wf_Be_22 : Cond.fieldLink "PotentialBench$Best" 22 "PotentialBench$Best" "sum" "LPotentialBench$Whole;" ∈ gt := gq_1 104 rfl rfl
set_option maxRecDepth 100000 in
theorem wf_Be_25 : Cond.fieldLink "PotentialBench$Best" 25 "PotentialBench$Best" "factor" "LPotentialBench$Whole;" ∈ gt := gq_1 105 rfl rfl
set_option maxRecDepth 100000 in
theorem wf_Be_28 : Cond.fieldLink "PotentialBench$Best" 28 "PotentialBench$Best" "product" "LPotentialBench$Whole;" ∈ gt := gq_1 106 rfl rfl
set_option maxRecDepth 100000 in
theorem wf_Be_31 : Cond.fieldLink "PotentialBench$Best" 31 "PotentialBench$Best" "rest" "LPotentialBench$Whole;" ∈ gt := gq_1 107 rfl rfl
set_option maxRecDepth 100000 in
theorem wf_Be_34 : Cond.fieldLink "PotentialBench$Best" 34 "PotentialBench$Best" "isFound" "Z" ∈ gt := gq_1 108 rfl rfl
set_option maxRecDepth 100000 in
theorem xf_PB_107 : Cond.fieldLinkNest "PotentialBench" 107 "PotentialBench$Best" "isFound" "Z" "PotentialBench" ∈ tables_1 := tq_1 (List.mem_of_getElem? (i := 109) rfl)
set_option maxRecDepth 100000 in
theorem wf_Be_44 : Cond.fieldLink "PotentialBench$Best" 44 "PotentialBench$Best" "takes" "I" ∈ gt := gq_1 110 rfl rfl
set_option maxRecDepth 100000 in
theorem wi_Bo : Cond.instantiable "PotentialBench$Body" 9 ∈ gt := gq_1 128 rfl rfl
set_option maxRecDepth 100000 in
theorem xm_PB_33 : Cond.methodLinkNest "PotentialBench" 33 y_Bo_init "PotentialBench" ∈ tables_1 := tq_1 (List.mem_of_getElem? (i := 129) rfl)
set_option maxRecDepth 100000 in
theorem wn_Bo_init : Cond.instanceMethod y_Bo_init ∈ gt := gq_1 130 rfl rfl
set_option maxRecDepth 100000 in
theorem wm_Bo_3 : Cond.methodLink "PotentialBench$Body" 3 Lib.objectInit ∈ gt := gq_1 132 rfl rfl
set_option maxRecDepth 100000 in
theorem wf_Bo_9 : Cond.fieldLink "PotentialBench$Body" 9 "PotentialBench$Body" "words" "[I" ∈ gt := gq_1 133 rfl rfl
set_option maxRecDepth 100000 in
theorem xf_PB_70 : Cond.fieldLinkNest "PotentialBench" 70 "PotentialBench$Body" "words" "[I" "PotentialBench" ∈ tables_1 := tq_1 (List.mem_of_getElem? (i := 134) rfl)
set_option maxRecDepth 100000 in
theorem xf_Re_74 : Cond.fieldLinkNest "PotentialBench$Reader" 74 "PotentialBench$Body" "words" "[I" "PotentialBench" ∈ tables_1 := tq_1 (List.mem_of_getElem? (i := 135) rfl)
set_option maxRecDepth 100000 in
theorem wf_Bo_15 : Cond.fieldLink "PotentialBench$Body" 15 "PotentialBench$Body" "start" "[I" ∈ gt := gq_1 136 rfl rfl
set_option maxRecDepth 100000 in
theorem wf_Bo_18 : Cond.fieldLink "PotentialBench$Body" 18 "PotentialBench$Body" "first" "[I" ∈ gt := gq_1 137 rfl rfl
set_option maxRecDepth 100000 in
theorem xf_Re_65 : Cond.fieldLinkNest "PotentialBench$Reader" 65 "PotentialBench$Body" "first" "[I" "PotentialBench" ∈ tables_1 := tq_1 (List.mem_of_getElem? (i := 138) rfl)
set_option maxRecDepth 100000 in
theorem xf_Ru_82 : Cond.fieldLinkNest "PotentialBench$Runner" 82 "PotentialBench$Body" "first" "[I" "PotentialBench" ∈ tables_1 := tq_1 (List.mem_of_getElem? (i := 139) rfl)
set_option maxRecDepth 100000 in
theorem xf_Ne_119 : Cond.fieldLinkNest "PotentialBench$Needs" 119 "PotentialBench$Body" "first" "[I" "PotentialBench" ∈ tables_1 := tq_1 (List.mem_of_getElem? (i := 140) rfl)
set_option maxRecDepth 100000 in
theorem wf_Bo_21 : Cond.fieldLink "PotentialBench$Body" 21 "PotentialBench$Body" "second" "[I" ∈ gt := gq_1 141 rfl rfl
set_option maxRecDepth 100000 in
theorem xf_Re_71 : Cond.fieldLinkNest "PotentialBench$Reader" 71 "PotentialBench$Body" "second" "[I" "PotentialBench" ∈ tables_1 := tq_1 (List.mem_of_getElem? (i := 142) rfl)
set_option maxRecDepth 100000 in
theorem xf_Ru_88 : Cond.fieldLinkNest "PotentialBench$Runner" 88 "PotentialBench$Body" "second" "[I" "PotentialBench" ∈ tables_1 := tq_1 (List.mem_of_getElem? (i := 143) rfl)
set_option maxRecDepth 100000 in
theorem xf_Ne_125 : Cond.fieldLinkNest "PotentialBench$Needs" 125 "PotentialBench$Body" "second" "[I" "PotentialBench" ∈ tables_1 := tq_1 (List.mem_of_getElem? (i := 144) rfl)
set_option maxRecDepth 100000 in
theorem wf_Bo_24 : Cond.fieldLink "PotentialBench$Body" 24 "PotentialBench$Body" "known" "[I" ∈ gt := gq_1 145 rfl rfl
set_option maxRecDepth 100000 in
theorem xf_Re_61 : Cond.fieldLinkNest "PotentialBench$Reader" 61 "PotentialBench$Body" "known" "[I" "PotentialBench" ∈ tables_1 := tq_1 (List.mem_of_getElem? (i := 146) rfl)
set_option maxRecDepth 100000 in
theorem xf_Ru_85 : Cond.fieldLinkNest "PotentialBench$Runner" 85 "PotentialBench$Body" "known" "[I" "PotentialBench" ∈ tables_1 := tq_1 (List.mem_of_getElem? (i := 147) rfl)
set_option maxRecDepth 100000 in
theorem xf_Ne_128 : Cond.fieldLinkNest "PotentialBench$Needs" 128 "PotentialBench$Body" "known" "[I" "PotentialBench" ∈ tables_1 := tq_1 (List.mem_of_getElem? (i := 148) rfl)
set_option maxRecDepth 100000 in
theorem wf_Bo_27 : Cond.fieldLink "PotentialBench$Body" 27 "PotentialBench$Body" "named" "[I" ∈ gt := gq_1 149 rfl rfl
set_option maxRecDepth 100000 in
theorem xf_Re_68 : Cond.fieldLinkNest "PotentialBench$Reader" 68 "PotentialBench$Body" "named" "[I" "PotentialBench" ∈ tables_1 := tq_1 (List.mem_of_getElem? (i := 150) rfl)
set_option maxRecDepth 100000 in
theorem xf_PB_60 : Cond.fieldLinkNest "PotentialBench" 60 "PotentialBench$Body" "takes" "I" "PotentialBench" ∈ tables_1 := tq_1 (List.mem_of_getElem? (i := 151) rfl)
set_option maxRecDepth 100000 in
theorem xf_Re_34 : Cond.fieldLinkNest "PotentialBench$Reader" 34 "PotentialBench$Body" "takes" "I" "PotentialBench" ∈ tables_1 := tq_1 (List.mem_of_getElem? (i := 152) rfl)
set_option maxRecDepth 100000 in
theorem xf_Ne_54 : Cond.fieldLinkNest "PotentialBench$Needs" 54 "PotentialBench$Body" "takes" "I" "PotentialBench" ∈ tables_1 := tq_1 (List.mem_of_getElem? (i := 153) rfl)
set_option maxRecDepth 100000 in
theorem xf_Ru_91 : Cond.fieldLinkNest "PotentialBench$Runner" 91 "PotentialBench$Body" "takes" "I" "PotentialBench" ∈ tables_1 := tq_1 (List.mem_of_getElem? (i := 154) rfl)
set_option maxRecDepth 100000 in
theorem xf_Re_41 : Cond.fieldLinkNest "PotentialBench$Reader" 41 "PotentialBench$Body" "size" "I" "PotentialBench" ∈ tables_1 := tq_1 (List.mem_of_getElem? (i := 155) rfl)
set_option maxRecDepth 100000 in
theorem xf_PB_67 : Cond.fieldLinkNest "PotentialBench" 67 "PotentialBench$Body" "size" "I" "PotentialBench" ∈ tables_1 := tq_1 (List.mem_of_getElem? (i := 156) rfl)
set_option maxRecDepth 100000 in
theorem wf_Bo_30 : Cond.fieldLink "PotentialBench$Body" 30 "PotentialBench$Body" "nodes" "I" ∈ gt := gq_1 157 rfl rfl
set_option maxRecDepth 100000 in
theorem xf_Re_29 : Cond.fieldLinkNest "PotentialBench$Reader" 29 "PotentialBench$Body" "nodes" "I" "PotentialBench" ∈ tables_1 := tq_1 (List.mem_of_getElem? (i := 158) rfl)
set_option maxRecDepth 100000 in
theorem wl_PB_34 : Cond.classLink "PotentialBench" 34 "PotentialBench$Reader" ∈ gt := gq_1 178 rfl rfl
set_option maxRecDepth 100000 in
theorem wi_Re : Cond.instantiable "PotentialBench$Reader" 5 ∈ gt := gq_1 179 rfl rfl
set_option maxRecDepth 100000 in
theorem xm_PB_36 : Cond.methodLinkNest "PotentialBench" 36 y_Re_init "PotentialBench" ∈ tables_1 := tq_1 (List.mem_of_getElem? (i := 180) rfl)
set_option maxRecDepth 100000 in
theorem wn_Re_init : Cond.instanceMethod y_Re_init ∈ gt := gq_1 181 rfl rfl
set_option maxRecDepth 100000 in
theorem wm_Re_3 : Cond.methodLink "PotentialBench$Reader" 3 Lib.objectInit ∈ gt := gq_1 183 rfl rfl
set_option maxRecDepth 100000 in
theorem wf_Re_15 : Cond.fieldLink "PotentialBench$Reader" 15 "PotentialBench$Reader" "bodies" "[LPotentialBench$Body;" ∈ gt := gq_1 184 rfl rfl
set_option maxRecDepth 100000 in
theorem wf_Re_19 : Cond.fieldLink "PotentialBench$Reader" 19 "PotentialBench$Reader" "body" "LPotentialBench$Body;" ∈ gt := gq_1 185 rfl rfl
set_option maxRecDepth 100000 in
theorem wf_Re_23 : Cond.fieldLink "PotentialBench$Reader" 23 "PotentialBench$Reader" "functions" "I" ∈ gt := gq_1 186 rfl rfl
set_option maxRecDepth 100000 in
theorem wf_Re_26 : Cond.fieldLink "PotentialBench$Reader" 26 "PotentialBench$Reader" "next" "I" ∈ gt := gq_1 187 rfl rfl
set_option maxRecDepth 100000 in
theorem wf_Re_9 : Cond.fieldLink "PotentialBench$Reader" 9 "PotentialBench$Reader" "wrong" "I" ∈ gt := gq_1 188 rfl rfl
set_option maxRecDepth 100000 in
theorem xf_PB_78 : Cond.fieldLinkNest "PotentialBench" 78 "PotentialBench$Reader" "wrong" "I" "PotentialBench" ∈ tables_1 := tq_1 (List.mem_of_getElem? (i := 189) rfl)
set_option maxRecDepth 100000 in
theorem wl_PB_43 : Cond.classLink "PotentialBench" 43 "PotentialBench$Runner" ∈ gt := gq_1 201 rfl rfl
set_option maxRecDepth 100000 in
theorem wi_Ru : Cond.instantiable "PotentialBench$Runner" 12 ∈ gt := gq_1 202 rfl rfl
set_option maxRecDepth 100000 in
theorem xm_PB_45 : Cond.methodLinkNest "PotentialBench" 45 y_Ru_init "PotentialBench" ∈ tables_1 := tq_1 (List.mem_of_getElem? (i := 203) rfl)
set_option maxRecDepth 100000 in
theorem wn_Ru_init : Cond.instanceMethod y_Ru_init ∈ gt := gq_1 204 rfl rfl
set_option maxRecDepth 100000 in
theorem wm_Ru_3 : Cond.methodLink "PotentialBench$Runner" 3 Lib.objectInit ∈ gt := gq_1 206 rfl rfl
set_option maxRecDepth 100000 in
theorem wf_Ru_28 : Cond.fieldLink "PotentialBench$Runner" 28 "PotentialBench$Runner" "bodies" "[LPotentialBench$Body;" ∈ gt := gq_1 207 rfl rfl
set_option maxRecDepth 100000 in
theorem wf_Ru_9 : Cond.fieldLink "PotentialBench$Runner" 9 "PotentialBench$Runner" "called" "[I" ∈ gt := gq_1 208 rfl rfl
set_option maxRecDepth 100000 in
theorem wf_Ru_15 : Cond.fieldLink "PotentialBench$Runner" 15 "PotentialBench$Runner" "lengths" "[I" ∈ gt := gq_1 209 rfl rfl
set_option maxRecDepth 100000 in
theorem wf_Ru_18 : Cond.fieldLink "PotentialBench$Runner" 18 "PotentialBench$Runner" "waits" "[I" ∈ gt := gq_1 210 rfl rfl
set_option maxRecDepth 100000 in
theorem wf_Ru_21 : Cond.fieldLink "PotentialBench$Runner" 21 "PotentialBench$Runner" "waitingBefore" "[I" ∈ gt := gq_1 211 rfl rfl
set_option maxRecDepth 100000 in
theorem wf_Ru_32 : Cond.fieldLink "PotentialBench$Runner" 32 "PotentialBench$Runner" "calls" "I" ∈ gt := gq_1 212 rfl rfl
set_option maxRecDepth 100000 in
theorem wf_Ru_35 : Cond.fieldLink "PotentialBench$Runner" 35 "PotentialBench$Runner" "waiting" "I" ∈ gt := gq_1 213 rfl rfl
set_option maxRecDepth 100000 in
theorem wf_Ru_59 : Cond.fieldLink "PotentialBench$Runner" 59 "PotentialBench$Runner" "node" "I" ∈ gt := gq_1 214 rfl rfl
set_option maxRecDepth 100000 in
theorem wf_Ru_56 : Cond.fieldLink "PotentialBench$Runner" 56 "PotentialBench$Runner" "length" "I" ∈ gt := gq_1 215 rfl rfl
set_option maxRecDepth 100000 in
theorem wf_Ru_38 : Cond.fieldLink "PotentialBench$Runner" 38 "PotentialBench$Runner" "begun" "I" ∈ gt := gq_1 216 rfl rfl
set_option maxRecDepth 100000 in
theorem xf_PB_100 : Cond.fieldLinkNest "PotentialBench" 100 "PotentialBench$Runner" "begun" "I" "PotentialBench" ∈ tables_1 := tq_1 (List.mem_of_getElem? (i := 217) rfl)
set_option maxRecDepth 100000 in
theorem wf_Ru_41 : Cond.fieldLink "PotentialBench$Runner" 41 "PotentialBench$Runner" "paid" "J" ∈ gt := gq_1 218 rfl rfl
set_option maxRecDepth 100000 in
theorem xf_PB_93 : Cond.fieldLinkNest "PotentialBench" 93 "PotentialBench$Runner" "paid" "J" "PotentialBench" ∈ tables_1 := tq_1 (List.mem_of_getElem? (i := 219) rfl)
set_option maxRecDepth 100000 in
theorem wf_Ru_24 : Cond.fieldLink "PotentialBench$Runner" 24 "PotentialBench$Runner" "gave" "I" ∈ gt := gq_1 220 rfl rfl
set_option maxRecDepth 100000 in
theorem xf_PB_97 : Cond.fieldLinkNest "PotentialBench" 97 "PotentialBench$Runner" "gave" "I" "PotentialBench" ∈ tables_1 := tq_1 (List.mem_of_getElem? (i := 221) rfl)
set_option maxRecDepth 100000 in
theorem wl_PB_50 : Cond.classLink "PotentialBench" 50 "PotentialBench$Needs" ∈ gt := gq_2 7 rfl rfl
set_option maxRecDepth 100000 in
theorem wi_Ne : Cond.instantiable "PotentialBench$Needs" 12 ∈ gt := gq_2 8 rfl rfl
set_option maxRecDepth 100000 in
theorem xm_PB_52 : Cond.methodLinkNest "PotentialBench" 52 y_Ne_init "PotentialBench" ∈ tables_1 := tq_2 (List.mem_of_getElem? (i := 9) rfl)
set_option maxRecDepth 100000 in
theorem wn_Ne_init : Cond.instanceMethod y_Ne_init ∈ gt := gq_2 10 rfl rfl
set_option maxRecDepth 100000 in
theorem wm_Ne_3 : Cond.methodLink "PotentialBench$Needs" 3 Lib.objectInit ∈ gt := gq_2 12 rfl rfl
set_option maxRecDepth 100000 in
theorem wl_Ne_15 : Cond.classLink "PotentialBench$Needs" 15 "[[I" ∈ gt := gq_2 13 rfl rfl
set_option maxRecDepth 100000 in
theorem xa_I : Cond.arrayOver (.array .int) ∈ tables_1 := tq_2 (List.mem_of_getElem? (i := 14) rfl)
set_option maxRecDepth 100000 in
theorem wf_Ne_35 : Cond.fieldLink "PotentialBench$Needs" 35 "PotentialBench$Needs" "bodies" "[LPotentialBench$Body;" ∈ gt := gq_2 15 rfl rfl
set_option maxRecDepth 100000 in
theorem wf_Ne_9 : Cond.fieldLink "PotentialBench$Needs" 9 "PotentialBench$Needs" "firstOf" "[I" ∈ gt := gq_2 16 rfl rfl
set_option maxRecDepth 100000 in
theorem xf_PB_113 : Cond.fieldLinkNest "PotentialBench" 113 "PotentialBench$Needs" "firstOf" "[I" "PotentialBench" ∈ tables_1 := tq_2 (List.mem_of_getElem? (i := 17) rfl)
set_option maxRecDepth 100000 in
theorem wf_Ne_17 : Cond.fieldLink "PotentialBench$Needs" 17 "PotentialBench$Needs" "conditions" "[[I" ∈ gt := gq_2 18 rfl rfl
set_option maxRecDepth 100000 in
theorem xf_So_76 : Cond.fieldLinkNest "PotentialBench$Solver" 76 "PotentialBench$Needs" "conditions" "[[I" "PotentialBench" ∈ tables_1 := tq_2 (List.mem_of_getElem? (i := 19) rfl)
set_option maxRecDepth 100000 in
theorem wf_Ne_20 : Cond.fieldLink "PotentialBench$Needs" 20 "PotentialBench$Needs" "spare" "[I" ∈ gt := gq_2 20 rfl rfl
set_option maxRecDepth 100000 in
theorem wf_Ne_23 : Cond.fieldLink "PotentialBench$Needs" 23 "PotentialBench$Needs" "nothing" "[I" ∈ gt := gq_2 21 rfl rfl
set_option maxRecDepth 100000 in
theorem wf_Ne_26 : Cond.fieldLink "PotentialBench$Needs" 26 "PotentialBench$Needs" "sums" "[[I" ∈ gt := gq_2 22 rfl rfl
set_option maxRecDepth 100000 in
theorem wf_Ne_29 : Cond.fieldLink "PotentialBench$Needs" 29 "PotentialBench$Needs" "brought" "[[I" ∈ gt := gq_2 23 rfl rfl
set_option maxRecDepth 100000 in
theorem wf_Ne_32 : Cond.fieldLink "PotentialBench$Needs" 32 "PotentialBench$Needs" "besides" "[[I" ∈ gt := gq_2 24 rfl rfl
set_option maxRecDepth 100000 in
theorem wf_Ne_39 : Cond.fieldLink "PotentialBench$Needs" 39 "PotentialBench$Needs" "body" "LPotentialBench$Body;" ∈ gt := gq_2 25 rfl rfl
set_option maxRecDepth 100000 in
theorem wf_Ne_43 : Cond.fieldLink "PotentialBench$Needs" 43 "PotentialBench$Needs" "unknowns" "I" ∈ gt := gq_2 26 rfl rfl
set_option maxRecDepth 100000 in
theorem xf_So_54 : Cond.fieldLinkNest "PotentialBench$Solver" 54 "PotentialBench$Needs" "unknowns" "I" "PotentialBench" ∈ tables_1 := tq_2 (List.mem_of_getElem? (i := 27) rfl)
set_option maxRecDepth 100000 in
theorem xf_PB_127 : Cond.fieldLinkNest "PotentialBench" 127 "PotentialBench$Needs" "unknowns" "I" "PotentialBench" ∈ tables_1 := tq_2 (List.mem_of_getElem? (i := 28) rfl)
set_option maxRecDepth 100000 in
theorem wf_Ne_47 : Cond.fieldLink "PotentialBench$Needs" 47 "PotentialBench$Needs" "count" "I" ∈ gt := gq_2 29 rfl rfl
set_option maxRecDepth 100000 in
theorem xf_So_73 : Cond.fieldLinkNest "PotentialBench$Solver" 73 "PotentialBench$Needs" "count" "I" "PotentialBench" ∈ tables_1 := tq_2 (List.mem_of_getElem? (i := 30) rfl)
set_option maxRecDepth 100000 in
theorem xf_PB_130 : Cond.fieldLinkNest "PotentialBench" 130 "PotentialBench$Needs" "count" "I" "PotentialBench" ∈ tables_1 := tq_2 (List.mem_of_getElem? (i := 31) rfl)
set_option maxRecDepth 100000 in
theorem wf_Ne_50 : Cond.fieldLink "PotentialBench$Needs" 50 "PotentialBench$Needs" "isFull" "Z" ∈ gt := gq_2 32 rfl rfl
set_option maxRecDepth 100000 in
theorem wf_PB_11 : Cond.fieldLink "PotentialBench" 11 "PotentialBench" "bodies" "[LPotentialBench$Body;" ∈ gt := gq_2 58 rfl rfl
set_option maxRecDepth 100000 in
theorem wf_PB_39 : Cond.fieldLink "PotentialBench" 39 "PotentialBench" "reader" "LPotentialBench$Reader;" ∈ gt := gq_2 59 rfl rfl
set_option maxRecDepth 100000 in
theorem wf_PB_46 : Cond.fieldLink "PotentialBench" 46 "PotentialBench" "runner" "LPotentialBench$Runner;" ∈ gt := gq_2 60 rfl rfl
set_option maxRecDepth 100000 in
theorem wf_PB_53 : Cond.fieldLink "PotentialBench" 53 "PotentialBench" "needs" "LPotentialBench$Needs;" ∈ gt := gq_2 61 rfl rfl
set_option maxRecDepth 100000 in
theorem wf_PB_18 : Cond.fieldLink "PotentialBench" 18 "PotentialBench" "solver" "LPotentialBench$Solver;" ∈ gt := gq_2 62 rfl rfl
set_option maxRecDepth 100000 in
theorem wf_PB_25 : Cond.fieldLink "PotentialBench" 25 "PotentialBench" "best" "LPotentialBench$Best;" ∈ gt := gq_2 63 rfl rfl
set_option maxRecDepth 100000 in
theorem wf_PB_57 : Cond.fieldLink "PotentialBench" 57 "PotentialBench" "functions" "I" ∈ gt := gq_2 64 rfl rfl
set_option maxRecDepth 100000 in
theorem wf_PB_29 : Cond.fieldLink "PotentialBench" 29 "PotentialBench" "wrongPlace" "I" ∈ gt := gq_2 65 rfl rfl
set_option maxRecDepth 100000 in
theorem wf_PB_103 : Cond.fieldLink "PotentialBench" 103 "PotentialBench" "isTold" "Z" ∈ gt := gq_2 66 rfl rfl
set_option maxRecDepth 100000 in
theorem wm_La_13 : Cond.methodLink "PotentialBenchLaw" 13 y_PB_function ∈ gt := gq_2 86 rfl rfl
set_option maxRecDepth 100000 in
theorem wn_PB_function : Cond.instanceMethod y_PB_function ∈ gt := gq_2 87 rfl rfl
set_option maxRecDepth 100000 in
theorem ws_PB_function : Cond.selects "PotentialBench" y_PB_function y_PB_function ∈ gt := gq_2 88 rfl rfl
set_option maxRecDepth 100000 in
theorem wm_La_18 : Cond.methodLink "PotentialBenchLaw" 18 y_PB_word ∈ gt := gq_2 90 rfl rfl
set_option maxRecDepth 100000 in
theorem wn_PB_word : Cond.instanceMethod y_PB_word ∈ gt := gq_2 91 rfl rfl
set_option maxRecDepth 100000 in
theorem ws_PB_word : Cond.selects "PotentialBench" y_PB_word y_PB_word ∈ gt := gq_2 92 rfl rfl
set_option maxRecDepth 100000 in
theorem wm_PB_63 : Cond.methodLink "PotentialBench" 63 y_PB_isFunction ∈ gt := gq_2 94 rfl rfl
set_option maxRecDepth 100000 in
theorem wn_PB_isFunction : Cond.instanceMethod y_PB_isFunction ∈ gt := gq_2 96 rfl rfl
set_option maxRecDepth 100000 in
theorem wm_La_23 : Cond.methodLink "PotentialBenchLaw" 23 y_PB_cut ∈ gt := gq_2 98 rfl rfl
set_option maxRecDepth 100000 in
theorem wn_PB_cut : Cond.instanceMethod y_PB_cut ∈ gt := gq_2 99 rfl rfl
set_option maxRecDepth 100000 in
theorem ws_PB_cut : Cond.selects "PotentialBench" y_PB_cut y_PB_cut ∈ gt := gq_2 100 rfl rfl
set_option maxRecDepth 100000 in
theorem wm_La_28 : Cond.methodLink "PotentialBenchLaw" 28 y_PB_look ∈ gt := gq_2 102 rfl rfl
set_option maxRecDepth 100000 in
theorem wn_PB_look : Cond.instanceMethod y_PB_look ∈ gt := gq_2 103 rfl rfl
set_option maxRecDepth 100000 in
theorem ws_PB_look : Cond.selects "PotentialBench" y_PB_look y_PB_look ∈ gt := gq_2 104 rfl rfl
set_option maxRecDepth 100000 in
theorem wm_PB_74 : Cond.methodLink "PotentialBench" 74 y_PB_firstWrong ∈ gt := gq_2 106 rfl rfl
set_option maxRecDepth 100000 in
theorem wn_PB_firstWrong : Cond.instanceMethod y_PB_firstWrong ∈ gt := gq_2 108 rfl rfl
set_option maxRecDepth 100000 in
theorem xm_PB_149 : Cond.methodLinkNest "PotentialBench" 149 y_Re_isRight "PotentialBench" ∈ tables_1 := tq_2 (List.mem_of_getElem? (i := 110) rfl)
set_option maxRecDepth 100000 in
theorem wn_Re_isRight : Cond.instanceMethod y_Re_isRight ∈ gt := gq_2 112 rfl rfl
set_option maxRecDepth 100000 in
theorem wm_Re_37 : Cond.methodLink "PotentialBench$Reader" 37 y_Re_expression ∈ gt := gq_2 114 rfl rfl
set_option maxRecDepth 100000 in
theorem wn_Re_expression : Cond.instanceMethod y_Re_expression ∈ gt := gq_2 116 rfl rfl
set_option maxRecDepth 100000 in
theorem wm_Re_44 : Cond.methodLink "PotentialBench$Reader" 44 y_Re_number ∈ gt := gq_2 118 rfl rfl
set_option maxRecDepth 100000 in
theorem wn_Re_number : Cond.instanceMethod y_Re_number ∈ gt := gq_2 120 rfl rfl
set_option maxRecDepth 100000 in
theorem xm_Re_47 : Cond.methodLinkNest "PotentialBench$Reader" 47 y_Bo_begin "PotentialBench" ∈ tables_1 := tq_2 (List.mem_of_getElem? (i := 122) rfl)
set_option maxRecDepth 100000 in
theorem wn_Bo_begin : Cond.instanceMethod y_Bo_begin ∈ gt := gq_2 124 rfl rfl
set_option maxRecDepth 100000 in
theorem wm_Re_50 : Cond.methodLink "PotentialBench$Reader" 50 y_Re_variable ∈ gt := gq_2 126 rfl rfl
set_option maxRecDepth 100000 in
theorem wn_Re_variable : Cond.instanceMethod y_Re_variable ∈ gt := gq_2 128 rfl rfl
set_option maxRecDepth 100000 in
theorem wm_Re_54 : Cond.methodLink "PotentialBench$Reader" 54 y_Re_parts ∈ gt := gq_2 130 rfl rfl
set_option maxRecDepth 100000 in
theorem wn_Re_parts : Cond.instanceMethod y_Re_parts ∈ gt := gq_2 132 rfl rfl
set_option maxRecDepth 100000 in
theorem wm_Re_58 : Cond.methodLink "PotentialBench$Reader" 58 y_Re_call ∈ gt := gq_2 134 rfl rfl
set_option maxRecDepth 100000 in
theorem wn_Re_call : Cond.instanceMethod y_Re_call ∈ gt := gq_2 136 rfl rfl
set_option maxRecDepth 100000 in
theorem wm_La_33 : Cond.methodLink "PotentialBenchLaw" 33 y_PB_place ∈ gt := gq_2 138 rfl rfl
set_option maxRecDepth 100000 in
theorem wn_PB_place : Cond.instanceMethod y_PB_place ∈ gt := gq_2 139 rfl rfl
set_option maxRecDepth 100000 in
theorem ws_PB_place : Cond.selects "PotentialBench" y_PB_place y_PB_place ∈ gt := gq_2 140 rfl rfl
set_option maxRecDepth 100000 in
theorem wm_La_37 : Cond.methodLink "PotentialBenchLaw" 37 y_PB_run ∈ gt := gq_2 142 rfl rfl
set_option maxRecDepth 100000 in
theorem wn_PB_run : Cond.instanceMethod y_PB_run ∈ gt := gq_2 143 rfl rfl
set_option maxRecDepth 100000 in
theorem ws_PB_run : Cond.selects "PotentialBench" y_PB_run y_PB_run ∈ gt := gq_2 144 rfl rfl
set_option maxRecDepth 100000 in
theorem wm_PB_81 : Cond.methodLink "PotentialBench" 81 y_PB_areLengths ∈ gt := gq_2 146 rfl rfl
set_option maxRecDepth 100000 in
theorem wt_PB_areLengths : Cond.static y_PB_areLengths ∈ gt := gq_2 147 rfl rfl
set_option maxRecDepth 100000 in
theorem wm_PB_146 : Cond.methodLink "PotentialBench" 146 y_PB_isLength ∈ gt := gq_2 149 rfl rfl
set_option maxRecDepth 100000 in
theorem wt_PB_isLength : Cond.static y_PB_isLength ∈ gt := gq_2 150 rfl rfl
set_option maxRecDepth 100000 in
theorem xm_PB_85 : Cond.methodLinkNest "PotentialBench" 85 y_Ru_start "PotentialBench" ∈ tables_1 := tq_2 (List.mem_of_getElem? (i := 152) rfl)
set_option maxRecDepth 100000 in
theorem wn_Ru_start : Cond.instanceMethod y_Ru_start ∈ gt := gq_2 154 rfl rfl
set_option maxRecDepth 100000 in
theorem wm_Ru_45 : Cond.methodLink "PotentialBench$Runner" 45 y_Ru_open ∈ gt := gq_2 156 rfl rfl
set_option maxRecDepth 100000 in
theorem wn_Ru_open : Cond.instanceMethod y_Ru_open ∈ gt := gq_2 158 rfl rfl
set_option maxRecDepth 100000 in
theorem xm_PB_89 : Cond.methodLinkNest "PotentialBench" 89 y_Ru_finish "PotentialBench" ∈ tables_1 := tq_2 (List.mem_of_getElem? (i := 160) rfl)
set_option maxRecDepth 100000 in
theorem wn_Ru_finish : Cond.instanceMethod y_Ru_finish ∈ gt := gq_2 162 rfl rfl
set_option maxRecDepth 100000 in
theorem wm_Ru_49 : Cond.methodLink "PotentialBench$Runner" 49 y_Ru_reachLength ∈ gt := gq_2 164 rfl rfl
set_option maxRecDepth 100000 in
theorem wn_Ru_reachLength : Cond.instanceMethod y_Ru_reachLength ∈ gt := gq_2 166 rfl rfl
set_option maxRecDepth 100000 in
theorem xm_Ru_62 : Cond.methodLinkNest "PotentialBench$Runner" 62 y_Bo_kind "PotentialBench" ∈ tables_1 := tq_2 (List.mem_of_getElem? (i := 168) rfl)
set_option maxRecDepth 100000 in
theorem wn_Bo_kind : Cond.instanceMethod y_Bo_kind ∈ gt := gq_2 170 rfl rfl
set_option maxRecDepth 100000 in
theorem xm_Ru_68 : Cond.methodLinkNest "PotentialBench$Runner" 68 y_Bo_operand "PotentialBench" ∈ tables_1 := tq_2 (List.mem_of_getElem? (i := 172) rfl)
set_option maxRecDepth 100000 in
theorem wn_Bo_operand : Cond.instanceMethod y_Bo_operand ∈ gt := gq_2 174 rfl rfl
set_option maxRecDepth 100000 in
theorem wm_Ru_71 : Cond.methodLink "PotentialBench$Runner" 71 y_Ru_slot ∈ gt := gq_2 176 rfl rfl
set_option maxRecDepth 100000 in
theorem wn_Ru_slot : Cond.instanceMethod y_Ru_slot ∈ gt := gq_2 178 rfl rfl
set_option maxRecDepth 100000 in
theorem wm_Ru_74 : Cond.methodLink "PotentialBench$Runner" 74 y_Ru_hand ∈ gt := gq_2 180 rfl rfl
set_option maxRecDepth 100000 in
theorem wn_Ru_hand : Cond.instanceMethod y_Ru_hand ∈ gt := gq_2 182 rfl rfl
set_option maxRecDepth 100000 in
theorem xm_Ru_94 : Cond.methodLinkNest "PotentialBench$Runner" 94 y_Bo_handed "PotentialBench" ∈ tables_1 := tq_2 (List.mem_of_getElem? (i := 184) rfl)
set_option maxRecDepth 100000 in
theorem wn_Bo_handed : Cond.instanceMethod y_Bo_handed ∈ gt := gq_2 186 rfl rfl
set_option maxRecDepth 100000 in
theorem wm_Ru_78 : Cond.methodLink "PotentialBench$Runner" 78 y_Ru_goInside ∈ gt := gq_2 188 rfl rfl
set_option maxRecDepth 100000 in
theorem wn_Ru_goInside : Cond.instanceMethod y_Ru_goInside ∈ gt := gq_2 190 rfl rfl
set_option maxRecDepth 100000 in
theorem wm_Ru_53 : Cond.methodLink "PotentialBench$Runner" 53 y_Ru_passOn ∈ gt := gq_2 192 rfl rfl
set_option maxRecDepth 100000 in
theorem wn_Ru_passOn : Cond.instanceMethod y_Ru_passOn ∈ gt := gq_2 194 rfl rfl
set_option maxRecDepth 100000 in
theorem wm_La_42 : Cond.methodLink "PotentialBenchLaw" 42 y_PB_cost ∈ gt := gq_2 196 rfl rfl
set_option maxRecDepth 100000 in
theorem wn_PB_cost : Cond.instanceMethod y_PB_cost ∈ gt := gq_2 197 rfl rfl
set_option maxRecDepth 100000 in
theorem ws_PB_cost : Cond.selects "PotentialBench" y_PB_cost y_PB_cost ∈ gt := gq_2 198 rfl rfl
set_option maxRecDepth 100000 in
theorem wm_La_47 : Cond.methodLink "PotentialBenchLaw" 47 y_PB_given ∈ gt := gq_2 200 rfl rfl
set_option maxRecDepth 100000 in
theorem wn_PB_given : Cond.instanceMethod y_PB_given ∈ gt := gq_2 201 rfl rfl
set_option maxRecDepth 100000 in
theorem ws_PB_given : Cond.selects "PotentialBench" y_PB_given y_PB_given ∈ gt := gq_2 202 rfl rfl
set_option maxRecDepth 100000 in
theorem wm_La_51 : Cond.methodLink "PotentialBenchLaw" 51 y_PB_steps ∈ gt := gq_2 204 rfl rfl
set_option maxRecDepth 100000 in
theorem wn_PB_steps : Cond.instanceMethod y_PB_steps ∈ gt := gq_2 205 rfl rfl
set_option maxRecDepth 100000 in
theorem ws_PB_steps : Cond.selects "PotentialBench" y_PB_steps y_PB_steps ∈ gt := gq_2 206 rfl rfl
set_option maxRecDepth 100000 in
theorem wm_La_55 : Cond.methodLink "PotentialBenchLaw" 55 y_PB_bound ∈ gt := gq_2 208 rfl rfl
set_option maxRecDepth 100000 in
theorem wn_PB_bound : Cond.instanceMethod y_PB_bound ∈ gt := gq_2 209 rfl rfl
set_option maxRecDepth 100000 in
theorem ws_PB_bound : Cond.selects "PotentialBench" y_PB_bound y_PB_bound ∈ gt := gq_2 210 rfl rfl
set_option maxRecDepth 100000 in
theorem xm_PB_110 : Cond.methodLinkNest "PotentialBench" 110 y_Ne_gather "PotentialBench" ∈ tables_1 := tq_2 (List.mem_of_getElem? (i := 212) rfl)
set_option maxRecDepth 100000 in
theorem wn_Ne_gather : Cond.instanceMethod y_Ne_gather ∈ gt := gq_2 214 rfl rfl
set_option maxRecDepth 100000 in
theorem wm_Ne_59 : Cond.methodLink "PotentialBench$Needs" 59 y_Ne_goThrough ∈ gt := gq_2 216 rfl rfl
set_option maxRecDepth 100000 in
theorem wn_Ne_goThrough : Cond.instanceMethod y_Ne_goThrough ∈ gt := gq_2 218 rfl rfl
set_option maxRecDepth 100000 in
theorem wm_Ne_63 : Cond.methodLink "PotentialBench$Needs" 63 y_JA_fill ∈ gt := gq_2 220 rfl rfl
set_option maxRecDepth 100000 in
theorem wt_JA_fill : Cond.static y_JA_fill ∈ gt := gq_2 221 rfl rfl
set_option maxRecDepth 100000 in
theorem wm_Ne_69 : Cond.methodLink "PotentialBench$Needs" 69 y_Ne_bringsOf ∈ gt := gq_2 223 rfl rfl
set_option maxRecDepth 100000 in
theorem wn_Ne_bringsOf : Cond.instanceMethod y_Ne_bringsOf ∈ gt := gq_2 225 rfl rfl
set_option maxRecDepth 100000 in
theorem wm_Ne_91 : Cond.methodLink "PotentialBench$Needs" 91 y_Ne_paysOf ∈ gt := gq_2 227 rfl rfl
set_option maxRecDepth 100000 in
theorem wn_Ne_paysOf : Cond.instanceMethod y_Ne_paysOf ∈ gt := gq_2 229 rfl rfl
set_option maxRecDepth 100000 in
theorem wm_Ne_73 : Cond.methodLink "PotentialBench$Needs" 73 y_Ne_leavesOf ∈ gt := gq_2 231 rfl rfl
set_option maxRecDepth 100000 in
theorem wn_Ne_leavesOf : Cond.instanceMethod y_Ne_leavesOf ∈ gt := gq_2 233 rfl rfl
set_option maxRecDepth 100000 in
theorem wm_Ne_76 : Cond.methodLink "PotentialBench$Needs" 76 y_Ne_clear ∈ gt := gq_2 235 rfl rfl
set_option maxRecDepth 100000 in
theorem wn_Ne_clear : Cond.instanceMethod y_Ne_clear ∈ gt := gq_2 237 rfl rfl
set_option maxRecDepth 100000 in
theorem wm_Ne_83 : Cond.methodLink "PotentialBench$Needs" 83 y_Ne_sum ∈ gt := gq_2 239 rfl rfl
set_option maxRecDepth 100000 in
theorem wn_Ne_sum : Cond.instanceMethod y_Ne_sum ∈ gt := gq_3 1 rfl rfl
set_option maxRecDepth 100000 in
theorem wm_Ne_79 : Cond.methodLink "PotentialBench$Needs" 79 y_Ne_add ∈ gt := gq_3 3 rfl rfl
set_option maxRecDepth 100000 in
theorem wn_Ne_add : Cond.instanceMethod y_Ne_add ∈ gt := gq_3 5 rfl rfl
set_option maxRecDepth 100000 in
theorem xm_Ne_94 : Cond.methodLinkNest "PotentialBench$Needs" 94 y_Bo_kind "PotentialBench" ∈ tables_1 := tq_3 (List.mem_of_getElem? (i := 7) rfl)
set_option maxRecDepth 100000 in
theorem xm_Ne_97 : Cond.methodLinkNest "PotentialBench$Needs" 97 y_Bo_operand "PotentialBench" ∈ tables_1 := tq_3 (List.mem_of_getElem? (i := 8) rfl)
set_option maxRecDepth 100000 in
theorem wm_Ne_100 : Cond.methodLink "PotentialBench$Needs" 100 y_Ne_plus ∈ gt := gq_3 9 rfl rfl
set_option maxRecDepth 100000 in
theorem wt_Ne_plus : Cond.static y_Ne_plus ∈ gt := gq_3 10 rfl rfl
set_option maxRecDepth 100000 in
theorem wm_Ne_104 : Cond.methodLink "PotentialBench$Needs" 104 y_Ne_addBranches ∈ gt := gq_3 12 rfl rfl
set_option maxRecDepth 100000 in
theorem wn_Ne_addBranches : Cond.instanceMethod y_Ne_addBranches ∈ gt := gq_3 14 rfl rfl
set_option maxRecDepth 100000 in
theorem xm_Ne_135 : Cond.methodLinkNest "PotentialBench$Needs" 135 y_Bo_others "PotentialBench" ∈ tables_1 := tq_3 (List.mem_of_getElem? (i := 16) rfl)
set_option maxRecDepth 100000 in
theorem wn_Bo_others : Cond.instanceMethod y_Bo_others ∈ gt := gq_3 18 rfl rfl
set_option maxRecDepth 100000 in
theorem wm_Bo_34 : Cond.methodLink "PotentialBench$Body" 34 y_Bo_operand ∈ gt := gq_3 20 rfl rfl
set_option maxRecDepth 100000 in
theorem wm_Ne_138 : Cond.methodLink "PotentialBench$Needs" 138 y_JI_bitCount ∈ gt := gq_3 21 rfl rfl
set_option maxRecDepth 100000 in
theorem wt_JI_bitCount : Cond.static y_JI_bitCount ∈ gt := gq_3 22 rfl rfl
set_option maxRecDepth 100000 in
theorem wk_JI_265 : Cond.constant "java/lang/Integer" 265 (1431655765) ∈ gt := gq_3 24 rfl rfl
set_option maxRecDepth 100000 in
theorem wk_JI_266 : Cond.constant "java/lang/Integer" 266 (858993459) ∈ gt := gq_3 25 rfl rfl
set_option maxRecDepth 100000 in
theorem wk_JI_267 : Cond.constant "java/lang/Integer" 267 (252645135) ∈ gt := gq_3 26 rfl rfl
set_option maxRecDepth 100000 in
theorem wm_Ne_116 : Cond.methodLink "PotentialBench$Needs" 116 y_Ne_handDown ∈ gt := gq_3 27 rfl rfl
set_option maxRecDepth 100000 in
theorem wn_Ne_handDown : Cond.instanceMethod y_Ne_handDown ∈ gt := gq_3 29 rfl rfl
set_option maxRecDepth 100000 in
theorem wm_Ne_122 : Cond.methodLink "PotentialBench$Needs" 122 y_Ne_copy ∈ gt := gq_3 31 rfl rfl
set_option maxRecDepth 100000 in
theorem wt_Ne_copy : Cond.static y_Ne_copy ∈ gt := gq_3 32 rfl rfl
set_option maxRecDepth 100000 in
theorem wm_Ne_87 : Cond.methodLink "PotentialBench$Needs" 87 y_Ne_atLeast ∈ gt := gq_3 37 rfl rfl
set_option maxRecDepth 100000 in
theorem wn_Ne_atLeast : Cond.instanceMethod y_Ne_atLeast ∈ gt := gq_3 39 rfl rfl
set_option maxRecDepth 100000 in
theorem wm_Ne_143 : Cond.methodLink "PotentialBench$Needs" 143 y_Ne_coverOthers ∈ gt := gq_3 41 rfl rfl
set_option maxRecDepth 100000 in
theorem wn_Ne_coverOthers : Cond.instanceMethod y_Ne_coverOthers ∈ gt := gq_3 43 rfl rfl
set_option maxRecDepth 100000 in
theorem wm_Ne_146 : Cond.methodLink "PotentialBench$Needs" 146 y_Ne_needOthers ∈ gt := gq_3 45 rfl rfl
set_option maxRecDepth 100000 in
theorem wn_Ne_needOthers : Cond.instanceMethod y_Ne_needOthers ∈ gt := gq_3 47 rfl rfl
set_option maxRecDepth 100000 in
theorem wm_Ne_107 : Cond.methodLink "PotentialBench$Needs" 107 y_Ne_addCall ∈ gt := gq_3 49 rfl rfl
set_option maxRecDepth 100000 in
theorem wn_Ne_addCall : Cond.instanceMethod y_Ne_addCall ∈ gt := gq_3 51 rfl rfl
set_option maxRecDepth 100000 in
theorem xm_Ne_131 : Cond.methodLinkNest "PotentialBench$Needs" 131 y_Bo_handed "PotentialBench" ∈ tables_1 := tq_3 (List.mem_of_getElem? (i := 53) rfl)
set_option maxRecDepth 100000 in
theorem wm_Ne_110 : Cond.methodLink "PotentialBench$Needs" 110 y_Ne_addThen ∈ gt := gq_3 54 rfl rfl
set_option maxRecDepth 100000 in
theorem wn_Ne_addThen : Cond.instanceMethod y_Ne_addThen ∈ gt := gq_3 56 rfl rfl
set_option maxRecDepth 100000 in
theorem wm_Ne_113 : Cond.methodLink "PotentialBench$Needs" 113 y_Ne_addOnePart ∈ gt := gq_3 58 rfl rfl
set_option maxRecDepth 100000 in
theorem wn_Ne_addOnePart : Cond.instanceMethod y_Ne_addOnePart ∈ gt := gq_3 60 rfl rfl
set_option maxRecDepth 100000 in
theorem xm_PB_116 : Cond.methodLinkNest "PotentialBench" 116 y_So_load "PotentialBench" ∈ tables_1 := tq_3 (List.mem_of_getElem? (i := 62) rfl)
set_option maxRecDepth 100000 in
theorem wn_So_load : Cond.instanceMethod y_So_load ∈ gt := gq_3 64 rfl rfl
set_option maxRecDepth 100000 in
theorem wm_So_62 : Cond.methodLink "PotentialBench$Solver" 62 y_Wh_set ∈ gt := gq_3 66 rfl rfl
set_option maxRecDepth 100000 in
theorem wn_Wh_set : Cond.instanceMethod y_Wh_set ∈ gt := gq_3 67 rfl rfl
set_option maxRecDepth 100000 in
theorem ws_Wh_set : Cond.selects "PotentialBench$Whole" y_Wh_set y_Wh_set ∈ gt := gq_3 68 rfl rfl
set_option maxRecDepth 100000 in
theorem wm_Wh_13 : Cond.methodLink "PotentialBench$Whole" 13 y_JL_compare ∈ gt := gq_3 70 rfl rfl
set_option maxRecDepth 100000 in
theorem wt_JL_compare : Cond.static y_JL_compare ∈ gt := gq_3 71 rfl rfl
set_option maxRecDepth 100000 in
theorem wk_Wh_23 : Cond.constantLong "PotentialBench$Whole" 23 (2147483647) ∈ gt := gq_3 73 rfl rfl
set_option maxRecDepth 100000 in
theorem wm_Wh_25 : Cond.methodLink "PotentialBench$Whole" 25 y_Wh_trim ∈ gt := gq_3 74 rfl rfl
set_option maxRecDepth 100000 in
theorem wn_Wh_trim : Cond.instanceMethod y_Wh_trim ∈ gt := gq_3 76 rfl rfl
set_option maxRecDepth 100000 in
theorem wm_So_66 : Cond.methodLink "PotentialBench$Solver" 66 y_So_cell ∈ gt := gq_3 78 rfl rfl
set_option maxRecDepth 100000 in
theorem wn_So_cell : Cond.instanceMethod y_So_cell ∈ gt := gq_3 80 rfl rfl
set_option maxRecDepth 100000 in
theorem wm_So_80 : Cond.methodLink "PotentialBench$Solver" 80 y_So_canFail ∈ gt := gq_3 82 rfl rfl
set_option maxRecDepth 100000 in
theorem wt_So_canFail : Cond.static y_So_canFail ∈ gt := gq_3 83 rfl rfl
set_option maxRecDepth 100000 in
theorem wm_So_84 : Cond.methodLink "PotentialBench$Solver" 84 y_So_loadRow ∈ gt := gq_3 85 rfl rfl
set_option maxRecDepth 100000 in
theorem wn_So_loadRow : Cond.instanceMethod y_So_loadRow ∈ gt := gq_3 87 rfl rfl
set_option maxRecDepth 100000 in
theorem xm_PB_120 : Cond.methodLinkNest "PotentialBench" 120 y_So_solve "PotentialBench" ∈ tables_1 := tq_3 (List.mem_of_getElem? (i := 89) rfl)
set_option maxRecDepth 100000 in
theorem wn_So_solve : Cond.instanceMethod y_So_solve ∈ gt := gq_3 91 rfl rfl
set_option maxRecDepth 100000 in
theorem wk_So_88 : Cond.constant "PotentialBench$Solver" 88 (1000000) ∈ gt := gq_3 93 rfl rfl
set_option maxRecDepth 100000 in
theorem wm_So_89 : Cond.methodLink "PotentialBench$Solver" 89 y_So_lowestRow ∈ gt := gq_3 94 rfl rfl
set_option maxRecDepth 100000 in
theorem wn_So_lowestRow : Cond.instanceMethod y_So_lowestRow ∈ gt := gq_3 96 rfl rfl
set_option maxRecDepth 100000 in
theorem wm_So_101 : Cond.methodLink "PotentialBench$Solver" 101 y_Wh_sign ∈ gt := gq_3 98 rfl rfl
set_option maxRecDepth 100000 in
theorem wn_Wh_sign : Cond.instanceMethod y_Wh_sign ∈ gt := gq_3 99 rfl rfl
set_option maxRecDepth 100000 in
theorem ws_Wh_sign : Cond.selects "PotentialBench$Whole" y_Wh_sign y_Wh_sign ∈ gt := gq_3 100 rfl rfl
set_option maxRecDepth 100000 in
theorem wm_So_104 : Cond.methodLink "PotentialBench$Solver" 104 y_Wh_compare ∈ gt := gq_3 102 rfl rfl
set_option maxRecDepth 100000 in
theorem wn_Wh_compare : Cond.instanceMethod y_Wh_compare ∈ gt := gq_3 103 rfl rfl
set_option maxRecDepth 100000 in
theorem ws_Wh_compare : Cond.selects "PotentialBench$Whole" y_Wh_compare y_Wh_compare ∈ gt := gq_3 104 rfl rfl
set_option maxRecDepth 100000 in
theorem wm_Wh_41 : Cond.methodLink "PotentialBench$Whole" 41 y_JI_compare ∈ gt := gq_3 106 rfl rfl
set_option maxRecDepth 100000 in
theorem wt_JI_compare : Cond.static y_JI_compare ∈ gt := gq_3 107 rfl rfl
set_option maxRecDepth 100000 in
theorem wm_Wh_46 : Cond.methodLink "PotentialBench$Whole" 46 y_Wh_compareAmount ∈ gt := gq_3 109 rfl rfl
set_option maxRecDepth 100000 in
theorem wn_Wh_compareAmount : Cond.instanceMethod y_Wh_compareAmount ∈ gt := gq_3 111 rfl rfl
set_option maxRecDepth 100000 in
theorem wm_So_93 : Cond.methodLink "PotentialBench$Solver" 93 y_So_entering ∈ gt := gq_3 113 rfl rfl
set_option maxRecDepth 100000 in
theorem wn_So_entering : Cond.instanceMethod y_So_entering ∈ gt := gq_3 115 rfl rfl
set_option maxRecDepth 100000 in
theorem wm_So_108 : Cond.methodLink "PotentialBench$Solver" 108 y_So_isDearer ∈ gt := gq_3 117 rfl rfl
set_option maxRecDepth 100000 in
theorem wn_So_isDearer : Cond.instanceMethod y_So_isDearer ∈ gt := gq_3 119 rfl rfl
set_option maxRecDepth 100000 in
theorem wm_So_112 : Cond.methodLink "PotentialBench$Solver" 112 y_So_compareIn ∈ gt := gq_3 121 rfl rfl
set_option maxRecDepth 100000 in
theorem wn_So_compareIn : Cond.instanceMethod y_So_compareIn ∈ gt := gq_3 123 rfl rfl
set_option maxRecDepth 100000 in
theorem wm_So_116 : Cond.methodLink "PotentialBench$Solver" 116 y_Wh_isSmall ∈ gt := gq_3 125 rfl rfl
set_option maxRecDepth 100000 in
theorem wn_Wh_isSmall : Cond.instanceMethod y_Wh_isSmall ∈ gt := gq_3 126 rfl rfl
set_option maxRecDepth 100000 in
theorem ws_Wh_isSmall : Cond.selects "PotentialBench$Whole" y_Wh_isSmall y_Wh_isSmall ∈ gt := gq_3 127 rfl rfl
set_option maxRecDepth 100000 in
theorem wm_So_120 : Cond.methodLink "PotentialBench$Solver" 120 y_Wh_small ∈ gt := gq_3 129 rfl rfl
set_option maxRecDepth 100000 in
theorem wn_Wh_small : Cond.instanceMethod y_Wh_small ∈ gt := gq_3 130 rfl rfl
set_option maxRecDepth 100000 in
theorem ws_Wh_small : Cond.selects "PotentialBench$Whole" y_Wh_small y_Wh_small ∈ gt := gq_3 131 rfl rfl
set_option maxRecDepth 100000 in
theorem wm_So_124 : Cond.methodLink "PotentialBench$Solver" 124 y_JL_compare ∈ gt := gq_3 133 rfl rfl
set_option maxRecDepth 100000 in
theorem wm_So_129 : Cond.methodLink "PotentialBench$Solver" 129 y_Wh_multiply ∈ gt := gq_3 134 rfl rfl
set_option maxRecDepth 100000 in
theorem wn_Wh_multiply : Cond.instanceMethod y_Wh_multiply ∈ gt := gq_3 135 rfl rfl
set_option maxRecDepth 100000 in
theorem ws_Wh_multiply : Cond.selects "PotentialBench$Whole" y_Wh_multiply y_Wh_multiply ∈ gt := gq_3 136 rfl rfl
set_option maxRecDepth 100000 in
theorem wm_Wh_32 : Cond.methodLink "PotentialBench$Whole" 32 y_Wh_room ∈ gt := gq_3 138 rfl rfl
set_option maxRecDepth 100000 in
theorem wn_Wh_room : Cond.instanceMethod y_Wh_room ∈ gt := gq_3 140 rfl rfl
set_option maxRecDepth 100000 in
theorem wm_Wh_95 : Cond.methodLink "PotentialBench$Whole" 95 y_JA_copyOf ∈ gt := gq_3 142 rfl rfl
set_option maxRecDepth 100000 in
theorem wt_JA_copyOf : Cond.static y_JA_copyOf ∈ gt := gq_3 143 rfl rfl
set_option maxRecDepth 100000 in
theorem wl_JA_317 : Cond.classLink "java/util/Arrays" 317 "[I" ∈ gt := gq_3 151 rfl rfl
set_option maxRecDepth 100000 in
theorem wm_JA_304 : Cond.methodLink "java/util/Arrays" 304 y_JM_min ∈ gt := gq_3 152 rfl rfl
set_option maxRecDepth 100000 in
theorem wt_JM_min : Cond.static y_JM_min ∈ gt := gq_3 153 rfl rfl
set_option maxRecDepth 100000 in
theorem wm_So_97 : Cond.methodLink "PotentialBench$Solver" 97 y_So_exchange ∈ gt := gq_3 156 rfl rfl
set_option maxRecDepth 100000 in
theorem wn_So_exchange : Cond.instanceMethod y_So_exchange ∈ gt := gq_3 158 rfl rfl
set_option maxRecDepth 100000 in
theorem wm_So_133 : Cond.methodLink "PotentialBench$Solver" 133 y_Wh_copy ∈ gt := gq_3 160 rfl rfl
set_option maxRecDepth 100000 in
theorem wn_Wh_copy : Cond.instanceMethod y_Wh_copy ∈ gt := gq_3 161 rfl rfl
set_option maxRecDepth 100000 in
theorem ws_Wh_copy : Cond.selects "PotentialBench$Whole" y_Wh_copy y_Wh_copy ∈ gt := gq_3 162 rfl rfl
set_option maxRecDepth 100000 in
theorem wm_So_137 : Cond.methodLink "PotentialBench$Solver" 137 y_So_put ∈ gt := gq_3 165 rfl rfl
set_option maxRecDepth 100000 in
theorem wn_So_put : Cond.instanceMethod y_So_put ∈ gt := gq_3 167 rfl rfl
set_option maxRecDepth 100000 in
theorem wm_So_147 : Cond.methodLink "PotentialBench$Solver" 147 y_Wh_subtract ∈ gt := gq_3 169 rfl rfl
set_option maxRecDepth 100000 in
theorem wn_Wh_subtract : Cond.instanceMethod y_Wh_subtract ∈ gt := gq_3 170 rfl rfl
set_option maxRecDepth 100000 in
theorem ws_Wh_subtract : Cond.selects "PotentialBench$Whole" y_Wh_subtract y_Wh_subtract ∈ gt := gq_3 171 rfl rfl
set_option maxRecDepth 100000 in
theorem wm_Wh_50 : Cond.methodLink "PotentialBench$Whole" 50 y_Wh_copy ∈ gt := gq_3 173 rfl rfl
set_option maxRecDepth 100000 in
theorem wm_Wh_54 : Cond.methodLink "PotentialBench$Whole" 54 y_Wh_negate ∈ gt := gq_3 174 rfl rfl
set_option maxRecDepth 100000 in
theorem wn_Wh_negate : Cond.instanceMethod y_Wh_negate ∈ gt := gq_3 175 rfl rfl
set_option maxRecDepth 100000 in
theorem ws_Wh_negate : Cond.selects "PotentialBench$Whole" y_Wh_negate y_Wh_negate ∈ gt := gq_3 176 rfl rfl
set_option maxRecDepth 100000 in
theorem wm_Wh_57 : Cond.methodLink "PotentialBench$Whole" 57 y_Wh_addAmount ∈ gt := gq_3 178 rfl rfl
set_option maxRecDepth 100000 in
theorem wn_Wh_addAmount : Cond.instanceMethod y_Wh_addAmount ∈ gt := gq_3 180 rfl rfl
set_option maxRecDepth 100000 in
theorem wm_Wh_64 : Cond.methodLink "PotentialBench$Whole" 64 y_Wh_digit ∈ gt := gq_3 182 rfl rfl
set_option maxRecDepth 100000 in
theorem wn_Wh_digit : Cond.instanceMethod y_Wh_digit ∈ gt := gq_3 184 rfl rfl
set_option maxRecDepth 100000 in
theorem wm_Wh_60 : Cond.methodLink "PotentialBench$Whole" 60 y_Wh_differ ∈ gt := gq_3 186 rfl rfl
set_option maxRecDepth 100000 in
theorem wn_Wh_differ : Cond.instanceMethod y_Wh_differ ∈ gt := gq_3 188 rfl rfl
set_option maxRecDepth 100000 in
theorem wm_So_150 : Cond.methodLink "PotentialBench$Solver" 150 y_Wh_divide ∈ gt := gq_3 190 rfl rfl
set_option maxRecDepth 100000 in
theorem wn_Wh_divide : Cond.instanceMethod y_Wh_divide ∈ gt := gq_3 191 rfl rfl
set_option maxRecDepth 100000 in
theorem ws_Wh_divide : Cond.selects "PotentialBench$Whole" y_Wh_divide y_Wh_divide ∈ gt := gq_3 192 rfl rfl
set_option maxRecDepth 100000 in
theorem wm_Wh_68 : Cond.methodLink "PotentialBench$Whole" 68 y_Wh_set ∈ gt := gq_3 194 rfl rfl
set_option maxRecDepth 100000 in
theorem wm_Wh_72 : Cond.methodLink "PotentialBench$Whole" 72 y_Wh_divideByDigit ∈ gt := gq_3 195 rfl rfl
set_option maxRecDepth 100000 in
theorem wn_Wh_divideByDigit : Cond.instanceMethod y_Wh_divideByDigit ∈ gt := gq_3 197 rfl rfl
set_option maxRecDepth 100000 in
theorem wm_Wh_75 : Cond.methodLink "PotentialBench$Whole" 75 y_Wh_bitsFree ∈ gt := gq_3 199 rfl rfl
set_option maxRecDepth 100000 in
theorem wn_Wh_bitsFree : Cond.instanceMethod y_Wh_bitsFree ∈ gt := gq_3 201 rfl rfl
set_option maxRecDepth 100000 in
theorem wk_Wh_93 : Cond.constantLong "PotentialBench$Whole" 93 (2147483648) ∈ gt := gq_3 203 rfl rfl
set_option maxRecDepth 100000 in
theorem wm_Wh_79 : Cond.methodLink "PotentialBench$Whole" 79 y_Wh_shift ∈ gt := gq_3 204 rfl rfl
set_option maxRecDepth 100000 in
theorem wn_Wh_shift : Cond.instanceMethod y_Wh_shift ∈ gt := gq_3 206 rfl rfl
set_option maxRecDepth 100000 in
theorem wm_Wh_83 : Cond.methodLink "PotentialBench$Whole" 83 y_Wh_guess ∈ gt := gq_3 208 rfl rfl
set_option maxRecDepth 100000 in
theorem wn_Wh_guess : Cond.instanceMethod y_Wh_guess ∈ gt := gq_3 210 rfl rfl
set_option maxRecDepth 100000 in
theorem wm_Wh_87 : Cond.methodLink "PotentialBench$Whole" 87 y_Wh_takeOff ∈ gt := gq_3 212 rfl rfl
set_option maxRecDepth 100000 in
theorem wn_Wh_takeOff : Cond.instanceMethod y_Wh_takeOff ∈ gt := gq_3 214 rfl rfl
set_option maxRecDepth 100000 in
theorem wk_Wh_91 : Cond.constantLong "PotentialBench$Whole" 91 (-1) ∈ gt := gq_3 216 rfl rfl
set_option maxRecDepth 100000 in
theorem wm_So_141 : Cond.methodLink "PotentialBench$Solver" 141 y_Wh_negate ∈ gt := gq_3 217 rfl rfl
set_option maxRecDepth 100000 in
theorem wm_So_144 : Cond.methodLink "PotentialBench$Solver" 144 y_So_swapUnknowns ∈ gt := gq_3 218 rfl rfl
set_option maxRecDepth 100000 in
theorem wn_So_swapUnknowns : Cond.instanceMethod y_So_swapUnknowns ∈ gt := gq_3 220 rfl rfl
set_option maxRecDepth 100000 in
theorem xm_PB_123 : Cond.methodLinkNest "PotentialBench" 123 y_Be_take "PotentialBench" ∈ tables_1 := tq_3 (List.mem_of_getElem? (i := 222) rfl)
set_option maxRecDepth 100000 in
theorem wn_Be_take : Cond.instanceMethod y_Be_take ∈ gt := gq_3 224 rfl rfl
set_option maxRecDepth 100000 in
theorem wm_Be_46 : Cond.methodLink "PotentialBench$Best" 46 y_Wh_copy ∈ gt := gq_3 226 rfl rfl
set_option maxRecDepth 100000 in
theorem xm_Be_50 : Cond.methodLinkNest "PotentialBench$Best" 50 y_So_tell "PotentialBench" ∈ tables_1 := tq_3 (List.mem_of_getElem? (i := 227) rfl)
set_option maxRecDepth 100000 in
theorem wn_So_tell : Cond.instanceMethod y_So_tell ∈ gt := gq_3 229 rfl rfl
set_option maxRecDepth 100000 in
theorem wm_La_59 : Cond.methodLink "PotentialBenchLaw" 59 y_PB_told ∈ gt := gq_3 231 rfl rfl
set_option maxRecDepth 100000 in
theorem wn_PB_told : Cond.instanceMethod y_PB_told ∈ gt := gq_3 232 rfl rfl
set_option maxRecDepth 100000 in
theorem ws_PB_told : Cond.selects "PotentialBench" y_PB_told y_PB_told ∈ gt := gq_3 233 rfl rfl
set_option maxRecDepth 100000 in
theorem wm_La_63 : Cond.methodLink "PotentialBenchLaw" 63 y_PB_scaled ∈ gt := gq_3 235 rfl rfl
set_option maxRecDepth 100000 in
theorem wn_PB_scaled : Cond.instanceMethod y_PB_scaled ∈ gt := gq_3 236 rfl rfl
set_option maxRecDepth 100000 in
theorem ws_PB_scaled : Cond.selects "PotentialBench" y_PB_scaled y_PB_scaled ∈ gt := gq_3 237 rfl rfl
set_option maxRecDepth 100000 in
theorem xm_PB_133 : Cond.methodLinkNest "PotentialBench" 133 y_Be_has "PotentialBench" ∈ tables_1 := tq_3 (List.mem_of_getElem? (i := 239) rfl)
set_option maxRecDepth 100000 in
theorem wn_Be_has : Cond.instanceMethod y_Be_has ∈ gt := gq_4 1 rfl rfl
set_option maxRecDepth 100000 in
theorem wk_PB_136 : Cond.constantLong "PotentialBench" 136 (-2) ∈ gt := gq_4 3 rfl rfl
set_option maxRecDepth 100000 in
theorem xm_PB_138 : Cond.methodLinkNest "PotentialBench" 138 y_Be_doubled "PotentialBench" ∈ tables_1 := tq_4 (List.mem_of_getElem? (i := 4) rfl)
set_option maxRecDepth 100000 in
theorem wn_Be_doubled : Cond.instanceMethod y_Be_doubled ∈ gt := gq_4 6 rfl rfl
set_option maxRecDepth 100000 in
theorem wm_Be_54 : Cond.methodLink "PotentialBench$Best" 54 y_Wh_set ∈ gt := gq_4 8 rfl rfl
set_option maxRecDepth 100000 in
theorem wm_Be_58 : Cond.methodLink "PotentialBench$Best" 58 y_Wh_multiply ∈ gt := gq_4 9 rfl rfl
set_option maxRecDepth 100000 in
theorem wm_Be_62 : Cond.methodLink "PotentialBench$Best" 62 y_Wh_divide ∈ gt := gq_4 10 rfl rfl
set_option maxRecDepth 100000 in
theorem wm_Be_66 : Cond.methodLink "PotentialBench$Best" 66 y_Wh_lowest ∈ gt := gq_4 11 rfl rfl
set_option maxRecDepth 100000 in
theorem wn_Wh_lowest : Cond.instanceMethod y_Wh_lowest ∈ gt := gq_4 12 rfl rfl
set_option maxRecDepth 100000 in
theorem ws_Wh_lowest : Cond.selects "PotentialBench$Whole" y_Wh_lowest y_Wh_lowest ∈ gt := gq_4 13 rfl rfl
set_option maxRecDepth 100000 in
theorem wm_La_70 : Cond.methodLink "PotentialBenchLaw" 70 y_PB_covers ∈ gt := gq_4 15 rfl rfl
set_option maxRecDepth 100000 in
theorem wn_PB_covers : Cond.instanceMethod y_PB_covers ∈ gt := gq_4 16 rfl rfl
set_option maxRecDepth 100000 in
theorem ws_PB_covers : Cond.selects "PotentialBench" y_PB_covers y_PB_covers ∈ gt := gq_4 17 rfl rfl
set_option maxRecDepth 100000 in
theorem xm_PB_142 : Cond.methodLinkNest "PotentialBench" 142 y_Be_reaches "PotentialBench" ∈ tables_1 := tq_4 (List.mem_of_getElem? (i := 19) rfl)
set_option maxRecDepth 100000 in
theorem wn_Be_reaches : Cond.instanceMethod y_Be_reaches ∈ gt := gq_4 21 rfl rfl
set_option maxRecDepth 100000 in
theorem wm_Be_70 : Cond.methodLink "PotentialBench$Best" 70 y_Be_addTimes ∈ gt := gq_4 23 rfl rfl
set_option maxRecDepth 100000 in
theorem wn_Be_addTimes : Cond.instanceMethod y_Be_addTimes ∈ gt := gq_4 25 rfl rfl
set_option maxRecDepth 100000 in
theorem wm_Be_78 : Cond.methodLink "PotentialBench$Best" 78 y_Wh_subtract ∈ gt := gq_4 27 rfl rfl
set_option maxRecDepth 100000 in
theorem wm_Be_74 : Cond.methodLink "PotentialBench$Best" 74 y_Wh_compare ∈ gt := gq_4 28 rfl rfl
set_option maxRecDepth 100000 in
theorem wl_La_10 : Cond.classLink "PotentialBenchLaw" 10 "PotentialBenchModel" ∈ gt := gq_4 29 rfl rfl
set_option maxRecDepth 100000 in
theorem wi_Mo : Cond.instantiable "PotentialBenchModel" 61 ∈ gt := gq_4 30 rfl rfl
set_option maxRecDepth 100000 in
theorem wm_La_12 : Cond.methodLink "PotentialBenchLaw" 12 y_Mo_init ∈ gt := gq_4 31 rfl rfl
set_option maxRecDepth 100000 in
theorem wn_Mo_init : Cond.instanceMethod y_Mo_init ∈ gt := gq_4 32 rfl rfl
set_option maxRecDepth 100000 in
theorem wm_Mo_3 : Cond.methodLink "PotentialBenchModel" 3 Lib.objectInit ∈ gt := gq_4 34 rfl rfl
set_option maxRecDepth 100000 in
theorem wk_Mo_56 : Cond.constant "PotentialBenchModel" 56 (36982) ∈ gt := gq_4 35 rfl rfl
set_option maxRecDepth 100000 in
theorem wk_Mo_82 : Cond.constant "PotentialBenchModel" 82 (319840) ∈ gt := gq_4 36 rfl rfl
set_option maxRecDepth 100000 in
theorem wf_Mo_111 : Cond.fieldLink "PotentialBenchModel" 111 "PotentialBenchModel" "functions" "I" ∈ gt := gq_4 37 rfl rfl
set_option maxRecDepth 100000 in
theorem wf_Mo_9 : Cond.fieldLink "PotentialBenchModel" 9 "PotentialBenchModel" "takes" "[I" ∈ gt := gq_4 38 rfl rfl
set_option maxRecDepth 100000 in
theorem wf_Mo_13 : Cond.fieldLink "PotentialBenchModel" 13 "PotentialBenchModel" "words" "[I" ∈ gt := gq_4 39 rfl rfl
set_option maxRecDepth 100000 in
theorem wf_Mo_16 : Cond.fieldLink "PotentialBenchModel" 16 "PotentialBenchModel" "counts" "[I" ∈ gt := gq_4 40 rfl rfl
set_option maxRecDepth 100000 in
theorem wf_Mo_19 : Cond.fieldLink "PotentialBenchModel" 19 "PotentialBenchModel" "place" "I" ∈ gt := gq_4 41 rfl rfl
set_option maxRecDepth 100000 in
theorem wf_Mo_23 : Cond.fieldLink "PotentialBenchModel" 23 "PotentialBenchModel" "ends" "[I" ∈ gt := gq_4 42 rfl rfl
set_option maxRecDepth 100000 in
theorem wf_Mo_26 : Cond.fieldLink "PotentialBenchModel" 26 "PotentialBenchModel" "openAt" "[I" ∈ gt := gq_4 43 rfl rfl
set_option maxRecDepth 100000 in
theorem wf_Mo_29 : Cond.fieldLink "PotentialBenchModel" 29 "PotentialBenchModel" "openParts" "[I" ∈ gt := gq_4 44 rfl rfl
set_option maxRecDepth 100000 in
theorem wf_Mo_32 : Cond.fieldLink "PotentialBenchModel" 32 "PotentialBenchModel" "openKnown" "[I" ∈ gt := gq_4 45 rfl rfl
set_option maxRecDepth 100000 in
theorem wf_Mo_118 : Cond.fieldLink "PotentialBenchModel" 118 "PotentialBenchModel" "open" "I" ∈ gt := gq_4 46 rfl rfl
set_option maxRecDepth 100000 in
theorem wf_Mo_175 : Cond.fieldLink "PotentialBenchModel" 175 "PotentialBenchModel" "cost" "J" ∈ gt := gq_4 47 rfl rfl
set_option maxRecDepth 100000 in
theorem wf_Mo_35 : Cond.fieldLink "PotentialBenchModel" 35 "PotentialBenchModel" "given" "I" ∈ gt := gq_4 48 rfl rfl
set_option maxRecDepth 100000 in
theorem wf_Mo_165 : Cond.fieldLink "PotentialBenchModel" 165 "PotentialBenchModel" "steps" "I" ∈ gt := gq_4 49 rfl rfl
set_option maxRecDepth 100000 in
theorem wf_Mo_38 : Cond.fieldLink "PotentialBenchModel" 38 "PotentialBenchModel" "waitKinds" "[I" ∈ gt := gq_4 50 rfl rfl
set_option maxRecDepth 100000 in
theorem wf_Mo_41 : Cond.fieldLink "PotentialBenchModel" 41 "PotentialBenchModel" "waitFunctions" "[I" ∈ gt := gq_4 51 rfl rfl
set_option maxRecDepth 100000 in
theorem wf_Mo_44 : Cond.fieldLink "PotentialBenchModel" 44 "PotentialBenchModel" "waitAts" "[I" ∈ gt := gq_4 52 rfl rfl
set_option maxRecDepth 100000 in
theorem wf_Mo_47 : Cond.fieldLink "PotentialBenchModel" 47 "PotentialBenchModel" "waitBases" "[I" ∈ gt := gq_4 53 rfl rfl
set_option maxRecDepth 100000 in
theorem wf_Mo_50 : Cond.fieldLink "PotentialBenchModel" 50 "PotentialBenchModel" "waitKnowns" "[I" ∈ gt := gq_4 54 rfl rfl
set_option maxRecDepth 100000 in
theorem wf_Mo_143 : Cond.fieldLink "PotentialBenchModel" 143 "PotentialBenchModel" "waiting" "I" ∈ gt := gq_4 55 rfl rfl
set_option maxRecDepth 100000 in
theorem wf_Mo_53 : Cond.fieldLink "PotentialBenchModel" 53 "PotentialBenchModel" "variables" "[I" ∈ gt := gq_4 56 rfl rfl
set_option maxRecDepth 100000 in
theorem wf_Mo_149 : Cond.fieldLink "PotentialBenchModel" 149 "PotentialBenchModel" "base" "I" ∈ gt := gq_4 57 rfl rfl
set_option maxRecDepth 100000 in
theorem wf_Mo_152 : Cond.fieldLink "PotentialBenchModel" 152 "PotentialBenchModel" "known" "I" ∈ gt := gq_4 58 rfl rfl
set_option maxRecDepth 100000 in
theorem wf_Mo_146 : Cond.fieldLink "PotentialBenchModel" 146 "PotentialBenchModel" "now" "I" ∈ gt := gq_4 59 rfl rfl
set_option maxRecDepth 100000 in
theorem wf_Mo_162 : Cond.fieldLink "PotentialBenchModel" 162 "PotentialBenchModel" "at" "I" ∈ gt := gq_4 60 rfl rfl
set_option maxRecDepth 100000 in
theorem wf_Mo_155 : Cond.fieldLink "PotentialBenchModel" 155 "PotentialBenchModel" "calls" "I" ∈ gt := gq_4 61 rfl rfl
set_option maxRecDepth 100000 in
theorem wf_Mo_158 : Cond.fieldLink "PotentialBenchModel" 158 "PotentialBenchModel" "tooLong" "Z" ∈ gt := gq_4 62 rfl rfl
set_option maxRecDepth 100000 in
theorem wf_Mo_168 : Cond.fieldLink "PotentialBenchModel" 168 "PotentialBenchModel" "value" "I" ∈ gt := gq_4 63 rfl rfl
set_option maxRecDepth 100000 in
theorem wf_Mo_57 : Cond.fieldLink "PotentialBenchModel" 57 "PotentialBenchModel" "lines" "[J" ∈ gt := gq_4 64 rfl rfl
set_option maxRecDepth 100000 in
theorem wf_Mo_208 : Cond.fieldLink "PotentialBenchModel" 208 "PotentialBenchModel" "blocks" "I" ∈ gt := gq_4 65 rfl rfl
set_option maxRecDepth 100000 in
theorem wf_Mo_192 : Cond.fieldLink "PotentialBenchModel" 192 "PotentialBenchModel" "unknowns" "I" ∈ gt := gq_4 66 rfl rfl
set_option maxRecDepth 100000 in
theorem wf_Mo_198 : Cond.fieldLink "PotentialBenchModel" 198 "PotentialBenchModel" "conditions" "I" ∈ gt := gq_4 67 rfl rfl
set_option maxRecDepth 100000 in
theorem wf_Mo_195 : Cond.fieldLink "PotentialBenchModel" 195 "PotentialBenchModel" "full" "Z" ∈ gt := gq_4 68 rfl rfl
set_option maxRecDepth 100000 in
theorem wf_Mo_61 : Cond.fieldLink "PotentialBenchModel" 61 "PotentialBenchModel" "firsts" "[I" ∈ gt := gq_4 69 rfl rfl
set_option maxRecDepth 100000 in
theorem wf_Mo_64 : Cond.fieldLink "PotentialBenchModel" 64 "PotentialBenchModel" "sums" "[J" ∈ gt := gq_4 70 rfl rfl
set_option maxRecDepth 100000 in
theorem wf_Mo_221 : Cond.fieldLink "PotentialBenchModel" 221 "PotentialBenchModel" "needing" "I" ∈ gt := gq_4 71 rfl rfl
set_option maxRecDepth 100000 in
theorem wf_Mo_67 : Cond.fieldLink "PotentialBenchModel" 67 "PotentialBenchModel" "needBlocks" "[I" ∈ gt := gq_4 72 rfl rfl
set_option maxRecDepth 100000 in
theorem wf_Mo_70 : Cond.fieldLink "PotentialBenchModel" 70 "PotentialBenchModel" "needAts" "[I" ∈ gt := gq_4 73 rfl rfl
set_option maxRecDepth 100000 in
theorem wf_Mo_73 : Cond.fieldLink "PotentialBenchModel" 73 "PotentialBenchModel" "needKnowns" "[I" ∈ gt := gq_4 74 rfl rfl
set_option maxRecDepth 100000 in
theorem wf_Mo_76 : Cond.fieldLink "PotentialBenchModel" 76 "PotentialBenchModel" "needPhases" "[I" ∈ gt := gq_4 75 rfl rfl
set_option maxRecDepth 100000 in
theorem wf_Mo_79 : Cond.fieldLink "PotentialBenchModel" 79 "PotentialBenchModel" "needParts" "[I" ∈ gt := gq_4 76 rfl rfl
set_option maxRecDepth 100000 in
theorem wf_Mo_241 : Cond.fieldLink "PotentialBenchModel" 241 "PotentialBenchModel" "ready" "I" ∈ gt := gq_4 77 rfl rfl
set_option maxRecDepth 100000 in
theorem wf_Mo_83 : Cond.fieldLink "PotentialBenchModel" 83 "PotentialBenchModel" "digits" "[I" ∈ gt := gq_4 78 rfl rfl
set_option maxRecDepth 100000 in
theorem wf_Mo_86 : Cond.fieldLink "PotentialBenchModel" 86 "PotentialBenchModel" "sizes" "[I" ∈ gt := gq_4 79 rfl rfl
set_option maxRecDepth 100000 in
theorem wf_Mo_89 : Cond.fieldLink "PotentialBenchModel" 89 "PotentialBenchModel" "below" "[Z" ∈ gt := gq_4 80 rfl rfl
set_option maxRecDepth 100000 in
theorem wf_Mo_93 : Cond.fieldLink "PotentialBenchModel" 93 "PotentialBenchModel" "one" "[I" ∈ gt := gq_4 81 rfl rfl
set_option maxRecDepth 100000 in
theorem wf_Mo_96 : Cond.fieldLink "PotentialBenchModel" 96 "PotentialBenchModel" "two" "[I" ∈ gt := gq_4 82 rfl rfl
set_option maxRecDepth 100000 in
theorem wf_Mo_99 : Cond.fieldLink "PotentialBenchModel" 99 "PotentialBenchModel" "quotient" "[I" ∈ gt := gq_4 83 rfl rfl
set_option maxRecDepth 100000 in
theorem wf_Mo_102 : Cond.fieldLink "PotentialBenchModel" 102 "PotentialBenchModel" "divisor" "[I" ∈ gt := gq_4 84 rfl rfl
set_option maxRecDepth 100000 in
theorem wf_Mo_286 : Cond.fieldLink "PotentialBenchModel" 286 "PotentialBenchModel" "oneSize" "I" ∈ gt := gq_4 85 rfl rfl
set_option maxRecDepth 100000 in
theorem wf_Mo_292 : Cond.fieldLink "PotentialBenchModel" 292 "PotentialBenchModel" "twoSize" "I" ∈ gt := gq_4 86 rfl rfl
set_option maxRecDepth 100000 in
theorem wf_Mo_289 : Cond.fieldLink "PotentialBenchModel" 289 "PotentialBenchModel" "oneBelow" "Z" ∈ gt := gq_4 87 rfl rfl
set_option maxRecDepth 100000 in
theorem wf_Mo_295 : Cond.fieldLink "PotentialBenchModel" 295 "PotentialBenchModel" "twoBelow" "Z" ∈ gt := gq_4 88 rfl rfl
set_option maxRecDepth 100000 in
theorem wf_Mo_313 : Cond.fieldLink "PotentialBenchModel" 313 "PotentialBenchModel" "quotientSize" "I" ∈ gt := gq_4 89 rfl rfl
set_option maxRecDepth 100000 in
theorem wf_Mo_333 : Cond.fieldLink "PotentialBenchModel" 333 "PotentialBenchModel" "rows" "I" ∈ gt := gq_4 90 rfl rfl
set_option maxRecDepth 100000 in
theorem wf_Mo_336 : Cond.fieldLink "PotentialBenchModel" 336 "PotentialBenchModel" "aims" "I" ∈ gt := gq_4 91 rfl rfl
set_option maxRecDepth 100000 in
theorem wf_Mo_105 : Cond.fieldLink "PotentialBenchModel" 105 "PotentialBenchModel" "rowNumbers" "[I" ∈ gt := gq_4 92 rfl rfl
set_option maxRecDepth 100000 in
theorem wf_Mo_108 : Cond.fieldLink "PotentialBenchModel" 108 "PotentialBenchModel" "columnNumbers" "[I" ∈ gt := gq_4 93 rfl rfl
set_option maxRecDepth 100000 in
theorem wf_Mo_383 : Cond.fieldLink "PotentialBenchModel" 383 "PotentialBenchModel" "solved" "Z" ∈ gt := gq_4 94 rfl rfl
set_option maxRecDepth 100000 in
theorem wf_Mo_392 : Cond.fieldLink "PotentialBenchModel" 392 "PotentialBenchModel" "boundFunction" "I" ∈ gt := gq_4 95 rfl rfl
set_option maxRecDepth 100000 in
theorem wf_Mo_364 : Cond.fieldLink "PotentialBenchModel" 364 "PotentialBenchModel" "gone" "I" ∈ gt := gq_4 96 rfl rfl
set_option maxRecDepth 100000 in
theorem wf_Mo_386 : Cond.fieldLink "PotentialBenchModel" 386 "PotentialBenchModel" "counted" "Z" ∈ gt := gq_4 97 rfl rfl
set_option maxRecDepth 100000 in
theorem wa_long : Cond.arrayClass .long ∈ gt := gq_4 221 rfl rfl
set_option maxRecDepth 100000 in
theorem wa_boolean : Cond.arrayClass .boolean ∈ gt := gq_4 222 rfl rfl
set_option maxRecDepth 100000 in
theorem wm_La_17 : Cond.methodLink "PotentialBenchLaw" 17 y_Mo_function ∈ gt := gq_4 223 rfl rfl
set_option maxRecDepth 100000 in
theorem wn_Mo_function : Cond.instanceMethod y_Mo_function ∈ gt := gq_4 224 rfl rfl
set_option maxRecDepth 100000 in
theorem ws_Mo_function : Cond.selects "PotentialBenchModel" y_Mo_function y_Mo_function ∈ gt := gq_4 225 rfl rfl
set_option maxRecDepth 100000 in
theorem wm_La_22 : Cond.methodLink "PotentialBenchLaw" 22 y_Mo_word ∈ gt := gq_4 227 rfl rfl
set_option maxRecDepth 100000 in
theorem wn_Mo_word : Cond.instanceMethod y_Mo_word ∈ gt := gq_4 228 rfl rfl
set_option maxRecDepth 100000 in
theorem ws_Mo_word : Cond.selects "PotentialBenchModel" y_Mo_word y_Mo_word ∈ gt := gq_4 229 rfl rfl
set_option maxRecDepth 100000 in
theorem wm_Mo_114 : Cond.methodLink "PotentialBenchModel" 114 y_Mo_isFunction ∈ gt := gq_4 231 rfl rfl
set_option maxRecDepth 100000 in
theorem wn_Mo_isFunction : Cond.instanceMethod y_Mo_isFunction ∈ gt := gq_4 233 rfl rfl
set_option maxRecDepth 100000 in
theorem wm_La_27 : Cond.methodLink "PotentialBenchLaw" 27 y_Mo_cut ∈ gt := gq_4 235 rfl rfl
set_option maxRecDepth 100000 in
theorem wn_Mo_cut : Cond.instanceMethod y_Mo_cut ∈ gt := gq_4 236 rfl rfl
set_option maxRecDepth 100000 in
theorem ws_Mo_cut : Cond.selects "PotentialBenchModel" y_Mo_cut y_Mo_cut ∈ gt := gq_4 237 rfl rfl
set_option maxRecDepth 100000 in
theorem wm_La_32 : Cond.methodLink "PotentialBenchLaw" 32 y_Mo_look ∈ gt := gq_4 239 rfl rfl
set_option maxRecDepth 100000 in
theorem wn_Mo_look : Cond.instanceMethod y_Mo_look ∈ gt := gq_5 0 rfl rfl
set_option maxRecDepth 100000 in
theorem ws_Mo_look : Cond.selects "PotentialBenchModel" y_Mo_look y_Mo_look ∈ gt := gq_5 1 rfl rfl
set_option maxRecDepth 100000 in
theorem wm_Mo_140 : Cond.methodLink "PotentialBenchModel" 140 y_Mo_wrong ∈ gt := gq_5 3 rfl rfl
set_option maxRecDepth 100000 in
theorem wn_Mo_wrong : Cond.instanceMethod y_Mo_wrong ∈ gt := gq_5 5 rfl rfl
set_option maxRecDepth 100000 in
theorem wm_Mo_121 : Cond.methodLink "PotentialBenchModel" 121 y_Mo_wrongHead ∈ gt := gq_5 7 rfl rfl
set_option maxRecDepth 100000 in
theorem wn_Mo_wrongHead : Cond.instanceMethod y_Mo_wrongHead ∈ gt := gq_5 9 rfl rfl
set_option maxRecDepth 100000 in
theorem wm_Mo_125 : Cond.methodLink "PotentialBenchModel" 125 y_Mo_headOf ∈ gt := gq_5 11 rfl rfl
set_option maxRecDepth 100000 in
theorem wn_Mo_headOf : Cond.instanceMethod y_Mo_headOf ∈ gt := gq_5 13 rfl rfl
set_option maxRecDepth 100000 in
theorem wm_Mo_129 : Cond.methodLink "PotentialBenchModel" 129 y_Mo_close ∈ gt := gq_5 15 rfl rfl
set_option maxRecDepth 100000 in
theorem wn_Mo_close : Cond.instanceMethod y_Mo_close ∈ gt := gq_5 17 rfl rfl
set_option maxRecDepth 100000 in
theorem wm_Mo_137 : Cond.methodLink "PotentialBenchModel" 137 y_Mo_partsOf ∈ gt := gq_5 19 rfl rfl
set_option maxRecDepth 100000 in
theorem wt_Mo_partsOf : Cond.static y_Mo_partsOf ∈ gt := gq_5 20 rfl rfl
set_option maxRecDepth 100000 in
theorem wm_Mo_133 : Cond.methodLink "PotentialBenchModel" 133 y_Mo_knownBehind ∈ gt := gq_5 22 rfl rfl
set_option maxRecDepth 100000 in
theorem wn_Mo_knownBehind : Cond.instanceMethod y_Mo_knownBehind ∈ gt := gq_5 24 rfl rfl
set_option maxRecDepth 100000 in
theorem wm_La_36 : Cond.methodLink "PotentialBenchLaw" 36 y_Mo_place ∈ gt := gq_5 26 rfl rfl
set_option maxRecDepth 100000 in
theorem wn_Mo_place : Cond.instanceMethod y_Mo_place ∈ gt := gq_5 27 rfl rfl
set_option maxRecDepth 100000 in
theorem ws_Mo_place : Cond.selects "PotentialBenchModel" y_Mo_place y_Mo_place ∈ gt := gq_5 28 rfl rfl
set_option maxRecDepth 100000 in
theorem wm_La_41 : Cond.methodLink "PotentialBenchLaw" 41 y_Mo_run ∈ gt := gq_5 30 rfl rfl
set_option maxRecDepth 100000 in
theorem wn_Mo_run : Cond.instanceMethod y_Mo_run ∈ gt := gq_5 31 rfl rfl
set_option maxRecDepth 100000 in
theorem ws_Mo_run : Cond.selects "PotentialBenchModel" y_Mo_run y_Mo_run ∈ gt := gq_5 32 rfl rfl
set_option maxRecDepth 100000 in
theorem wm_Mo_182 : Cond.methodLink "PotentialBenchModel" 182 y_Mo_isRight ∈ gt := gq_5 34 rfl rfl
set_option maxRecDepth 100000 in
theorem wn_Mo_isRight : Cond.instanceMethod y_Mo_isRight ∈ gt := gq_5 36 rfl rfl
set_option maxRecDepth 100000 in
theorem wm_Mo_179 : Cond.methodLink "PotentialBenchModel" 179 y_Mo_enter ∈ gt := gq_5 38 rfl rfl
set_option maxRecDepth 100000 in
theorem wn_Mo_enter : Cond.instanceMethod y_Mo_enter ∈ gt := gq_5 40 rfl rfl
set_option maxRecDepth 100000 in
theorem wm_Mo_186 : Cond.methodLink "PotentialBenchModel" 186 y_Mo_beginOne ∈ gt := gq_5 42 rfl rfl
set_option maxRecDepth 100000 in
theorem wn_Mo_beginOne : Cond.instanceMethod y_Mo_beginOne ∈ gt := gq_5 44 rfl rfl
set_option maxRecDepth 100000 in
theorem wm_Mo_171 : Cond.methodLink "PotentialBenchModel" 171 y_Mo_wait ∈ gt := gq_5 46 rfl rfl
set_option maxRecDepth 100000 in
theorem wn_Mo_wait : Cond.instanceMethod y_Mo_wait ∈ gt := gq_5 48 rfl rfl
set_option maxRecDepth 100000 in
theorem wm_Mo_189 : Cond.methodLink "PotentialBenchModel" 189 y_Mo_giveOn ∈ gt := gq_5 50 rfl rfl
set_option maxRecDepth 100000 in
theorem wn_Mo_giveOn : Cond.instanceMethod y_Mo_giveOn ∈ gt := gq_5 52 rfl rfl
set_option maxRecDepth 100000 in
theorem wm_La_46 : Cond.methodLink "PotentialBenchLaw" 46 y_Mo_cost ∈ gt := gq_5 54 rfl rfl
set_option maxRecDepth 100000 in
theorem wn_Mo_cost : Cond.instanceMethod y_Mo_cost ∈ gt := gq_5 55 rfl rfl
set_option maxRecDepth 100000 in
theorem ws_Mo_cost : Cond.selects "PotentialBenchModel" y_Mo_cost y_Mo_cost ∈ gt := gq_5 56 rfl rfl
set_option maxRecDepth 100000 in
theorem wm_La_50 : Cond.methodLink "PotentialBenchLaw" 50 y_Mo_given ∈ gt := gq_5 58 rfl rfl
set_option maxRecDepth 100000 in
theorem wn_Mo_given : Cond.instanceMethod y_Mo_given ∈ gt := gq_5 59 rfl rfl
set_option maxRecDepth 100000 in
theorem ws_Mo_given : Cond.selects "PotentialBenchModel" y_Mo_given y_Mo_given ∈ gt := gq_5 60 rfl rfl
set_option maxRecDepth 100000 in
theorem wm_La_54 : Cond.methodLink "PotentialBenchLaw" 54 y_Mo_steps ∈ gt := gq_5 62 rfl rfl
set_option maxRecDepth 100000 in
theorem wn_Mo_steps : Cond.instanceMethod y_Mo_steps ∈ gt := gq_5 63 rfl rfl
set_option maxRecDepth 100000 in
theorem ws_Mo_steps : Cond.selects "PotentialBenchModel" y_Mo_steps y_Mo_steps ∈ gt := gq_5 64 rfl rfl
set_option maxRecDepth 100000 in
theorem wm_La_58 : Cond.methodLink "PotentialBenchLaw" 58 y_Mo_bound ∈ gt := gq_5 66 rfl rfl
set_option maxRecDepth 100000 in
theorem wn_Mo_bound : Cond.instanceMethod y_Mo_bound ∈ gt := gq_5 67 rfl rfl
set_option maxRecDepth 100000 in
theorem ws_Mo_bound : Cond.selects "PotentialBenchModel" y_Mo_bound y_Mo_bound ∈ gt := gq_5 68 rfl rfl
set_option maxRecDepth 100000 in
theorem wm_Mo_389 : Cond.methodLink "PotentialBenchModel" 389 y_Mo_needBody ∈ gt := gq_5 70 rfl rfl
set_option maxRecDepth 100000 in
theorem wn_Mo_needBody : Cond.instanceMethod y_Mo_needBody ∈ gt := gq_5 72 rfl rfl
set_option maxRecDepth 100000 in
theorem wm_Mo_211 : Cond.methodLink "PotentialBenchModel" 211 y_Mo_line ∈ gt := gq_5 74 rfl rfl
set_option maxRecDepth 100000 in
theorem wt_Mo_line : Cond.static y_Mo_line ∈ gt := gq_5 75 rfl rfl
set_option maxRecDepth 100000 in
theorem wm_Mo_214 : Cond.methodLink "PotentialBenchModel" 214 y_Mo_clear ∈ gt := gq_5 77 rfl rfl
set_option maxRecDepth 100000 in
theorem wn_Mo_clear : Cond.instanceMethod y_Mo_clear ∈ gt := gq_5 79 rfl rfl
set_option maxRecDepth 100000 in
theorem wm_Mo_263 : Cond.methodLink "PotentialBenchModel" 263 y_Mo_unknown ∈ gt := gq_5 81 rfl rfl
set_option maxRecDepth 100000 in
theorem wn_Mo_unknown : Cond.instanceMethod y_Mo_unknown ∈ gt := gq_5 83 rfl rfl
set_option maxRecDepth 100000 in
theorem wm_Mo_273 : Cond.methodLink "PotentialBenchModel" 273 y_Mo_needOf ∈ gt := gq_5 85 rfl rfl
set_option maxRecDepth 100000 in
theorem wn_Mo_needOf : Cond.instanceMethod y_Mo_needOf ∈ gt := gq_5 87 rfl rfl
set_option maxRecDepth 100000 in
theorem wm_Mo_230 : Cond.methodLink "PotentialBenchModel" 230 y_Mo_openNeed ∈ gt := gq_5 89 rfl rfl
set_option maxRecDepth 100000 in
theorem wn_Mo_openNeed : Cond.instanceMethod y_Mo_openNeed ∈ gt := gq_5 91 rfl rfl
set_option maxRecDepth 100000 in
theorem wm_Mo_224 : Cond.methodLink "PotentialBenchModel" 224 y_Mo_newBlock ∈ gt := gq_5 93 rfl rfl
set_option maxRecDepth 100000 in
theorem wn_Mo_newBlock : Cond.instanceMethod y_Mo_newBlock ∈ gt := gq_5 95 rfl rfl
set_option maxRecDepth 100000 in
theorem wm_Mo_218 : Cond.methodLink "PotentialBenchModel" 218 y_Mo_copy ∈ gt := gq_5 97 rfl rfl
set_option maxRecDepth 100000 in
theorem wn_Mo_copy : Cond.instanceMethod y_Mo_copy ∈ gt := gq_5 99 rfl rfl
set_option maxRecDepth 100000 in
theorem wm_Mo_251 : Cond.methodLink "PotentialBenchModel" 251 y_Mo_firstOf ∈ gt := gq_5 101 rfl rfl
set_option maxRecDepth 100000 in
theorem wn_Mo_firstOf : Cond.instanceMethod y_Mo_firstOf ∈ gt := gq_5 103 rfl rfl
set_option maxRecDepth 100000 in
theorem wm_Mo_227 : Cond.methodLink "PotentialBenchModel" 227 y_Mo_add ∈ gt := gq_5 105 rfl rfl
set_option maxRecDepth 100000 in
theorem wn_Mo_add : Cond.instanceMethod y_Mo_add ∈ gt := gq_5 107 rfl rfl
set_option maxRecDepth 100000 in
theorem wm_Mo_234 : Cond.methodLink "PotentialBenchModel" 234 y_Mo_needCall ∈ gt := gq_5 109 rfl rfl
set_option maxRecDepth 100000 in
theorem wn_Mo_needCall : Cond.instanceMethod y_Mo_needCall ∈ gt := gq_5 111 rfl rfl
set_option maxRecDepth 100000 in
theorem wm_Mo_260 : Cond.methodLink "PotentialBenchModel" 260 y_Mo_newUnknown ∈ gt := gq_5 113 rfl rfl
set_option maxRecDepth 100000 in
theorem wn_Mo_newUnknown : Cond.instanceMethod y_Mo_newUnknown ∈ gt := gq_5 115 rfl rfl
set_option maxRecDepth 100000 in
theorem wm_Mo_201 : Cond.methodLink "PotentialBenchModel" 201 y_Mo_newCondition ∈ gt := gq_5 117 rfl rfl
set_option maxRecDepth 100000 in
theorem wn_Mo_newCondition : Cond.instanceMethod y_Mo_newCondition ∈ gt := gq_5 119 rfl rfl
set_option maxRecDepth 100000 in
theorem wm_Mo_205 : Cond.methodLink "PotentialBenchModel" 205 y_Mo_take ∈ gt := gq_5 121 rfl rfl
set_option maxRecDepth 100000 in
theorem wn_Mo_take : Cond.instanceMethod y_Mo_take ∈ gt := gq_5 123 rfl rfl
set_option maxRecDepth 100000 in
theorem wm_Mo_266 : Cond.methodLink "PotentialBenchModel" 266 y_Mo_atLeast ∈ gt := gq_5 125 rfl rfl
set_option maxRecDepth 100000 in
theorem wn_Mo_atLeast : Cond.instanceMethod y_Mo_atLeast ∈ gt := gq_5 127 rfl rfl
set_option maxRecDepth 100000 in
theorem wm_Mo_238 : Cond.methodLink "PotentialBenchModel" 238 y_Mo_endNeed ∈ gt := gq_5 129 rfl rfl
set_option maxRecDepth 100000 in
theorem wn_Mo_endNeed : Cond.instanceMethod y_Mo_endNeed ∈ gt := gq_5 131 rfl rfl
set_option maxRecDepth 100000 in
theorem wm_Mo_254 : Cond.methodLink "PotentialBenchModel" 254 y_Mo_secondOf ∈ gt := gq_5 133 rfl rfl
set_option maxRecDepth 100000 in
theorem wn_Mo_secondOf : Cond.instanceMethod y_Mo_secondOf ∈ gt := gq_5 135 rfl rfl
set_option maxRecDepth 100000 in
theorem wm_Mo_244 : Cond.methodLink "PotentialBenchModel" 244 y_Mo_keepAll ∈ gt := gq_5 137 rfl rfl
set_option maxRecDepth 100000 in
theorem wn_Mo_keepAll : Cond.instanceMethod y_Mo_keepAll ∈ gt := gq_5 139 rfl rfl
set_option maxRecDepth 100000 in
theorem wm_Mo_257 : Cond.methodLink "PotentialBenchModel" 257 y_Mo_thirdOf ∈ gt := gq_5 141 rfl rfl
set_option maxRecDepth 100000 in
theorem wn_Mo_thirdOf : Cond.instanceMethod y_Mo_thirdOf ∈ gt := gq_5 143 rfl rfl
set_option maxRecDepth 100000 in
theorem wm_Mo_247 : Cond.methodLink "PotentialBenchModel" 247 y_Mo_needMatch ∈ gt := gq_5 145 rfl rfl
set_option maxRecDepth 100000 in
theorem wn_Mo_needMatch : Cond.instanceMethod y_Mo_needMatch ∈ gt := gq_5 147 rfl rfl
set_option maxRecDepth 100000 in
theorem wm_Mo_269 : Cond.methodLink "PotentialBenchModel" 269 y_Mo_isNamed ∈ gt := gq_5 149 rfl rfl
set_option maxRecDepth 100000 in
theorem wn_Mo_isNamed : Cond.instanceMethod y_Mo_isNamed ∈ gt := gq_5 151 rfl rfl
set_option maxRecDepth 100000 in
theorem wm_Mo_395 : Cond.methodLink "PotentialBenchModel" 395 y_Mo_lay ∈ gt := gq_5 153 rfl rfl
set_option maxRecDepth 100000 in
theorem wn_Mo_lay : Cond.instanceMethod y_Mo_lay ∈ gt := gq_5 155 rfl rfl
set_option maxRecDepth 100000 in
theorem wm_Mo_360 : Cond.methodLink "PotentialBenchModel" 360 y_Mo_put ∈ gt := gq_5 157 rfl rfl
set_option maxRecDepth 100000 in
theorem wn_Mo_put : Cond.instanceMethod y_Mo_put ∈ gt := gq_5 159 rfl rfl
set_option maxRecDepth 100000 in
theorem wk_Mo_276 : Cond.constantLong "PotentialBenchModel" 276 (65535) ∈ gt := gq_5 161 rfl rfl
set_option maxRecDepth 100000 in
theorem wm_Mo_328 : Cond.methodLink "PotentialBenchModel" 328 y_Mo_at ∈ gt := gq_5 162 rfl rfl
set_option maxRecDepth 100000 in
theorem wt_Mo_at : Cond.static y_Mo_at ∈ gt := gq_5 163 rfl rfl
set_option maxRecDepth 100000 in
theorem wm_Mo_398 : Cond.methodLink "PotentialBenchModel" 398 y_Mo_reach ∈ gt := gq_5 165 rfl rfl
set_option maxRecDepth 100000 in
theorem wn_Mo_reach : Cond.instanceMethod y_Mo_reach ∈ gt := gq_5 167 rfl rfl
set_option maxRecDepth 100000 in
theorem wm_Mo_374 : Cond.methodLink "PotentialBenchModel" 374 y_Mo_exchange ∈ gt := gq_5 169 rfl rfl
set_option maxRecDepth 100000 in
theorem wn_Mo_exchange : Cond.instanceMethod y_Mo_exchange ∈ gt := gq_5 171 rfl rfl
set_option maxRecDepth 100000 in
theorem wm_Mo_330 : Cond.methodLink "PotentialBenchModel" 330 y_Mo_signOf ∈ gt := gq_5 173 rfl rfl
set_option maxRecDepth 100000 in
theorem wn_Mo_signOf : Cond.instanceMethod y_Mo_signOf ∈ gt := gq_5 175 rfl rfl
set_option maxRecDepth 100000 in
theorem wm_Mo_339 : Cond.methodLink "PotentialBenchModel" 339 y_Mo_rowBy ∈ gt := gq_5 177 rfl rfl
set_option maxRecDepth 100000 in
theorem wn_Mo_rowBy : Cond.instanceMethod y_Mo_rowBy ∈ gt := gq_5 179 rfl rfl
set_option maxRecDepth 100000 in
theorem wm_Mo_343 : Cond.methodLink "PotentialBenchModel" 343 y_Mo_turn ∈ gt := gq_5 181 rfl rfl
set_option maxRecDepth 100000 in
theorem wn_Mo_turn : Cond.instanceMethod y_Mo_turn ∈ gt := gq_5 183 rfl rfl
set_option maxRecDepth 100000 in
theorem wm_Mo_351 : Cond.methodLink "PotentialBenchModel" 351 y_Mo_products ∈ gt := gq_5 185 rfl rfl
set_option maxRecDepth 100000 in
theorem wn_Mo_products : Cond.instanceMethod y_Mo_products ∈ gt := gq_5 186 rfl rfl
set_option maxRecDepth 100000 in
theorem ws_Mo_products : Cond.selects "PotentialBenchModel" y_Mo_products y_Mo_products ∈ gt := gq_5 187 rfl rfl
set_option maxRecDepth 100000 in
theorem wm_Mo_282 : Cond.methodLink "PotentialBenchModel" 282 y_Mo_times ∈ gt := gq_5 189 rfl rfl
set_option maxRecDepth 100000 in
theorem wn_Mo_times : Cond.instanceMethod y_Mo_times ∈ gt := gq_5 191 rfl rfl
set_option maxRecDepth 100000 in
theorem wm_Mo_278 : Cond.methodLink "PotentialBenchModel" 278 y_Mo_cut2 ∈ gt := gq_5 193 rfl rfl
set_option maxRecDepth 100000 in
theorem wt_Mo_cut2 : Cond.static y_Mo_cut2 ∈ gt := gq_5 194 rfl rfl
set_option maxRecDepth 100000 in
theorem wm_Mo_298 : Cond.methodLink "PotentialBenchModel" 298 y_Mo_join ∈ gt := gq_5 196 rfl rfl
set_option maxRecDepth 100000 in
theorem wn_Mo_join : Cond.instanceMethod y_Mo_join ∈ gt := gq_5 198 rfl rfl
set_option maxRecDepth 100000 in
theorem wm_Mo_305 : Cond.methodLink "PotentialBenchModel" 305 y_Mo_addRows ∈ gt := gq_5 200 rfl rfl
set_option maxRecDepth 100000 in
theorem wn_Mo_addRows : Cond.instanceMethod y_Mo_addRows ∈ gt := gq_5 202 rfl rfl
set_option maxRecDepth 100000 in
theorem wk_Mo_312 : Cond.constant "PotentialBenchModel" 312 (65535) ∈ gt := gq_5 204 rfl rfl
set_option maxRecDepth 100000 in
theorem wm_Mo_301 : Cond.methodLink "PotentialBenchModel" 301 y_Mo_compare ∈ gt := gq_5 205 rfl rfl
set_option maxRecDepth 100000 in
theorem wt_Mo_compare : Cond.static y_Mo_compare ∈ gt := gq_5 206 rfl rfl
set_option maxRecDepth 100000 in
theorem wm_Mo_308 : Cond.methodLink "PotentialBenchModel" 308 y_Mo_subtract ∈ gt := gq_5 208 rfl rfl
set_option maxRecDepth 100000 in
theorem wt_Mo_subtract : Cond.static y_Mo_subtract ∈ gt := gq_5 209 rfl rfl
set_option maxRecDepth 100000 in
theorem wm_Mo_354 : Cond.methodLink "PotentialBenchModel" 354 y_Mo_divide ∈ gt := gq_5 211 rfl rfl
set_option maxRecDepth 100000 in
theorem wn_Mo_divide : Cond.instanceMethod y_Mo_divide ∈ gt := gq_5 212 rfl rfl
set_option maxRecDepth 100000 in
theorem ws_Mo_divide : Cond.selects "PotentialBenchModel" y_Mo_divide y_Mo_divide ∈ gt := gq_5 213 rfl rfl
set_option maxRecDepth 100000 in
theorem wk_Mo_316 : Cond.constant "PotentialBenchModel" 316 (32768) ∈ gt := gq_5 215 rfl rfl
set_option maxRecDepth 100000 in
theorem wm_Mo_317 : Cond.methodLink "PotentialBenchModel" 317 y_Mo_shiftInto ∈ gt := gq_5 216 rfl rfl
set_option maxRecDepth 100000 in
theorem wn_Mo_shiftInto : Cond.instanceMethod y_Mo_shiftInto ∈ gt := gq_5 218 rfl rfl
set_option maxRecDepth 100000 in
theorem wm_Mo_320 : Cond.methodLink "PotentialBenchModel" 320 y_Mo_raise ∈ gt := gq_5 220 rfl rfl
set_option maxRecDepth 100000 in
theorem wn_Mo_raise : Cond.instanceMethod y_Mo_raise ∈ gt := gq_5 222 rfl rfl
set_option maxRecDepth 100000 in
theorem wm_Mo_323 : Cond.methodLink "PotentialBenchModel" 323 y_Mo_digit ∈ gt := gq_5 224 rfl rfl
set_option maxRecDepth 100000 in
theorem wn_Mo_digit : Cond.instanceMethod y_Mo_digit ∈ gt := gq_5 226 rfl rfl
set_option maxRecDepth 100000 in
theorem wk_Mo_326 : Cond.constantLong "PotentialBenchModel" 326 (65536) ∈ gt := gq_5 228 rfl rfl
set_option maxRecDepth 100000 in
theorem wm_Mo_357 : Cond.methodLink "PotentialBenchModel" 357 y_Mo_keepQuotient ∈ gt := gq_5 229 rfl rfl
set_option maxRecDepth 100000 in
theorem wn_Mo_keepQuotient : Cond.instanceMethod y_Mo_keepQuotient ∈ gt := gq_5 230 rfl rfl
set_option maxRecDepth 100000 in
theorem ws_Mo_keepQuotient : Cond.selects "PotentialBenchModel" y_Mo_keepQuotient y_Mo_keepQuotient ∈ gt := gq_5 231 rfl rfl
set_option maxRecDepth 100000 in
theorem wm_Mo_346 : Cond.methodLink "PotentialBenchModel" 346 y_Mo_swapOne ∈ gt := gq_5 233 rfl rfl
set_option maxRecDepth 100000 in
theorem wn_Mo_swapOne : Cond.instanceMethod y_Mo_swapOne ∈ gt := gq_5 235 rfl rfl
set_option maxRecDepth 100000 in
theorem wk_Mo_350 : Cond.constant "PotentialBenchModel" 350 (319760) ∈ gt := gq_5 237 rfl rfl
set_option maxRecDepth 100000 in
theorem wm_Mo_377 : Cond.methodLink "PotentialBenchModel" 377 y_Mo_coming ∈ gt := gq_5 238 rfl rfl
set_option maxRecDepth 100000 in
theorem wn_Mo_coming : Cond.instanceMethod y_Mo_coming ∈ gt := gq_6 0 rfl rfl
set_option maxRecDepth 100000 in
theorem wm_Mo_380 : Cond.methodLink "PotentialBenchModel" 380 y_Mo_giving ∈ gt := gq_6 2 rfl rfl
set_option maxRecDepth 100000 in
theorem wn_Mo_giving : Cond.instanceMethod y_Mo_giving ∈ gt := gq_6 4 rfl rfl
set_option maxRecDepth 100000 in
theorem wm_Mo_367 : Cond.methodLink "PotentialBenchModel" 367 y_Mo_shareOf ∈ gt := gq_6 6 rfl rfl
set_option maxRecDepth 100000 in
theorem wn_Mo_shareOf : Cond.instanceMethod y_Mo_shareOf ∈ gt := gq_6 8 rfl rfl
set_option maxRecDepth 100000 in
theorem wm_Mo_370 : Cond.methodLink "PotentialBenchModel" 370 y_Mo_compareProducts ∈ gt := gq_6 10 rfl rfl
set_option maxRecDepth 100000 in
theorem wn_Mo_compareProducts : Cond.instanceMethod y_Mo_compareProducts ∈ gt := gq_6 11 rfl rfl
set_option maxRecDepth 100000 in
theorem ws_Mo_compareProducts : Cond.selects "PotentialBenchModel" y_Mo_compareProducts y_Mo_compareProducts ∈ gt := gq_6 12 rfl rfl
set_option maxRecDepth 100000 in
theorem wm_Mo_401 : Cond.methodLink "PotentialBenchModel" 401 y_Mo_improve ∈ gt := gq_6 14 rfl rfl
set_option maxRecDepth 100000 in
theorem wn_Mo_improve : Cond.instanceMethod y_Mo_improve ∈ gt := gq_6 16 rfl rfl
set_option maxRecDepth 100000 in
theorem wm_La_62 : Cond.methodLink "PotentialBenchLaw" 62 y_Mo_told ∈ gt := gq_6 18 rfl rfl
set_option maxRecDepth 100000 in
theorem wn_Mo_told : Cond.instanceMethod y_Mo_told ∈ gt := gq_6 19 rfl rfl
set_option maxRecDepth 100000 in
theorem ws_Mo_told : Cond.selects "PotentialBenchModel" y_Mo_told y_Mo_told ∈ gt := gq_6 20 rfl rfl
set_option maxRecDepth 100000 in
theorem wm_La_67 : Cond.methodLink "PotentialBenchLaw" 67 y_Mo_scaled ∈ gt := gq_6 22 rfl rfl
set_option maxRecDepth 100000 in
theorem wn_Mo_scaled : Cond.instanceMethod y_Mo_scaled ∈ gt := gq_6 23 rfl rfl
set_option maxRecDepth 100000 in
theorem ws_Mo_scaled : Cond.selects "PotentialBenchModel" y_Mo_scaled y_Mo_scaled ∈ gt := gq_6 24 rfl rfl
set_option maxRecDepth 100000 in
theorem wm_Mo_404 : Cond.methodLink "PotentialBenchModel" 404 y_Mo_boundAt ∈ gt := gq_6 26 rfl rfl
set_option maxRecDepth 100000 in
theorem wn_Mo_boundAt : Cond.instanceMethod y_Mo_boundAt ∈ gt := gq_6 28 rfl rfl
set_option maxRecDepth 100000 in
theorem wk_Mo_407 : Cond.constantLong "PotentialBenchModel" 407 (-2) ∈ gt := gq_6 30 rfl rfl
set_option maxRecDepth 100000 in
theorem wm_La_74 : Cond.methodLink "PotentialBenchLaw" 74 y_Mo_covers ∈ gt := gq_6 31 rfl rfl
set_option maxRecDepth 100000 in
theorem wn_Mo_covers : Cond.instanceMethod y_Mo_covers ∈ gt := gq_6 32 rfl rfl
set_option maxRecDepth 100000 in
theorem ws_Mo_covers : Cond.selects "PotentialBenchModel" y_Mo_covers y_Mo_covers ∈ gt := gq_6 33 rfl rfl
set_option maxRecDepth 100000 in
theorem wm_Mo_409 : Cond.methodLink "PotentialBenchModel" 409 y_Mo_sum ∈ gt := gq_6 35 rfl rfl
set_option maxRecDepth 100000 in
theorem wn_Mo_sum : Cond.instanceMethod y_Mo_sum ∈ gt := gq_6 37 rfl rfl
set_option maxRecDepth 100000 in
theorem wk_La_68 : Cond.constantLong "PotentialBenchLaw" 68 (4294967295) ∈ gt := gq_6 39 rfl rfl
set_option maxRecDepth 100000 in
theorem wc_JO_init : Cond.code Lib.objectInit ⟨#[0xb1]⟩ 1 none ∈ gt := gq_1 22 rfl rfl
theorem ws_PB_isFunction : Cond.selects "PotentialBench" y_PB_isFunction y_PB_isFunction ∈ gt := gt_p (q := (⟨"PotentialBench", "isFunction", "(I)Z"⟩, 9)) (List.mem_of_getElem? (i := 0) (by decide +kernel))
theorem ws_PB_firstWrong : Cond.selects "PotentialBench" y_PB_firstWrong y_PB_firstWrong ∈ gt := gt_p (q := (⟨"PotentialBench", "firstWrong", "()I"⟩, 9)) (List.mem_of_getElem? (i := 1) (by decide +kernel))
theorem ws_Re_isRight : Cond.selects "PotentialBench$Reader" y_Re_isRight y_Re_isRight ∈ gt := gt_p (q := (⟨"PotentialBench$Reader", "isRight", "(II)Z"⟩, 5)) (List.mem_of_getElem? (i := 2) (by decide +kernel))
theorem ws_Re_expression : Cond.selects "PotentialBench$Reader" y_Re_expression y_Re_expression ∈ gt := gt_p (q := (⟨"PotentialBench$Reader", "expression", "(II)I"⟩, 5)) (List.mem_of_getElem? (i := 3) (by decide +kernel))
theorem ws_Re_number : Cond.selects "PotentialBench$Reader" y_Re_number y_Re_number ∈ gt := gt_p (q := (⟨"PotentialBench$Reader", "number", "(II)I"⟩, 5)) (List.mem_of_getElem? (i := 4) (by decide +kernel))
theorem ws_Bo_begin : Cond.selects "PotentialBench$Body" y_Bo_begin y_Bo_begin ∈ gt := gt_p (q := (⟨"PotentialBench$Body", "begin", "(II)I"⟩, 9)) (List.mem_of_getElem? (i := 5) (by decide +kernel))
theorem ws_Re_variable : Cond.selects "PotentialBench$Reader" y_Re_variable y_Re_variable ∈ gt := gt_p (q := (⟨"PotentialBench$Reader", "variable", "(I)V"⟩, 5)) (List.mem_of_getElem? (i := 6) (by decide +kernel))
theorem ws_Re_parts : Cond.selects "PotentialBench$Reader" y_Re_parts y_Re_parts ∈ gt := gt_p (q := (⟨"PotentialBench$Reader", "parts", "(IIZ)V"⟩, 5)) (List.mem_of_getElem? (i := 7) (by decide +kernel))
theorem ws_Re_call : Cond.selects "PotentialBench$Reader" y_Re_call y_Re_call ∈ gt := gt_p (q := (⟨"PotentialBench$Reader", "call", "(I)V"⟩, 5)) (List.mem_of_getElem? (i := 8) (by decide +kernel))
theorem ws_Ru_start : Cond.selects "PotentialBench$Runner" y_Ru_start y_Ru_start ∈ gt := gt_p (q := (⟨"PotentialBench$Runner", "start", "(IIII)V"⟩, 12)) (List.mem_of_getElem? (i := 9) (by decide +kernel))
theorem ws_Ru_open : Cond.selects "PotentialBench$Runner" y_Ru_open y_Ru_open ∈ gt := gt_p (q := (⟨"PotentialBench$Runner", "open", "(I)V"⟩, 12)) (List.mem_of_getElem? (i := 10) (by decide +kernel))
theorem ws_Ru_finish : Cond.selects "PotentialBench$Runner" y_Ru_finish y_Ru_finish ∈ gt := gt_p (q := (⟨"PotentialBench$Runner", "finish", "()Z"⟩, 12)) (List.mem_of_getElem? (i := 11) (by decide +kernel))
theorem ws_Ru_reachLength : Cond.selects "PotentialBench$Runner" y_Ru_reachLength y_Ru_reachLength ∈ gt := gt_p (q := (⟨"PotentialBench$Runner", "reachLength", "()Z"⟩, 12)) (List.mem_of_getElem? (i := 12) (by decide +kernel))
theorem ws_Bo_kind : Cond.selects "PotentialBench$Body" y_Bo_kind y_Bo_kind ∈ gt := gt_p (q := (⟨"PotentialBench$Body", "kind", "(I)I"⟩, 9)) (List.mem_of_getElem? (i := 13) (by decide +kernel))
theorem ws_Bo_operand : Cond.selects "PotentialBench$Body" y_Bo_operand y_Bo_operand ∈ gt := gt_p (q := (⟨"PotentialBench$Body", "operand", "(I)I"⟩, 9)) (List.mem_of_getElem? (i := 14) (by decide +kernel))
theorem ws_Ru_slot : Cond.selects "PotentialBench$Runner" y_Ru_slot y_Ru_slot ∈ gt := gt_p (q := (⟨"PotentialBench$Runner", "slot", "(I)I"⟩, 12)) (List.mem_of_getElem? (i := 15) (by decide +kernel))
theorem ws_Ru_hand : Cond.selects "PotentialBench$Runner" y_Ru_hand y_Ru_hand ∈ gt := gt_p (q := (⟨"PotentialBench$Runner", "hand", "(LPotentialBench$Body;)V"⟩, 12)) (List.mem_of_getElem? (i := 16) (by decide +kernel))
theorem ws_Bo_handed : Cond.selects "PotentialBench$Body" y_Bo_handed y_Bo_handed ∈ gt := gt_p (q := (⟨"PotentialBench$Body", "handed", "(II)I"⟩, 9)) (List.mem_of_getElem? (i := 17) (by decide +kernel))
theorem ws_Ru_goInside : Cond.selects "PotentialBench$Runner" y_Ru_goInside y_Ru_goInside ∈ gt := gt_p (q := (⟨"PotentialBench$Runner", "goInside", "(LPotentialBench$Body;I)V"⟩, 12)) (List.mem_of_getElem? (i := 18) (by decide +kernel))
theorem ws_Ru_passOn : Cond.selects "PotentialBench$Runner" y_Ru_passOn y_Ru_passOn ∈ gt := gt_p (q := (⟨"PotentialBench$Runner", "passOn", "()Z"⟩, 12)) (List.mem_of_getElem? (i := 19) (by decide +kernel))
theorem ws_Ne_gather : Cond.selects "PotentialBench$Needs" y_Ne_gather y_Ne_gather ∈ gt := gt_p (q := (⟨"PotentialBench$Needs", "gather", "(I)Z"⟩, 12)) (List.mem_of_getElem? (i := 20) (by decide +kernel))
theorem ws_Ne_goThrough : Cond.selects "PotentialBench$Needs" y_Ne_goThrough y_Ne_goThrough ∈ gt := gt_p (q := (⟨"PotentialBench$Needs", "goThrough", "(I)V"⟩, 12)) (List.mem_of_getElem? (i := 21) (by decide +kernel))
theorem ws_Ne_bringsOf : Cond.selects "PotentialBench$Needs" y_Ne_bringsOf y_Ne_bringsOf ∈ gt := gt_p (q := (⟨"PotentialBench$Needs", "bringsOf", "(I)I"⟩, 12)) (List.mem_of_getElem? (i := 22) (by decide +kernel))
theorem ws_Ne_paysOf : Cond.selects "PotentialBench$Needs" y_Ne_paysOf y_Ne_paysOf ∈ gt := gt_p (q := (⟨"PotentialBench$Needs", "paysOf", "(I)I"⟩, 12)) (List.mem_of_getElem? (i := 23) (by decide +kernel))
theorem ws_Ne_leavesOf : Cond.selects "PotentialBench$Needs" y_Ne_leavesOf y_Ne_leavesOf ∈ gt := gt_p (q := (⟨"PotentialBench$Needs", "leavesOf", "(I)I"⟩, 12)) (List.mem_of_getElem? (i := 24) (by decide +kernel))
theorem ws_Ne_clear : Cond.selects "PotentialBench$Needs" y_Ne_clear y_Ne_clear ∈ gt := gt_p (q := (⟨"PotentialBench$Needs", "clear", "(I)V"⟩, 12)) (List.mem_of_getElem? (i := 25) (by decide +kernel))
theorem ws_Ne_sum : Cond.selects "PotentialBench$Needs" y_Ne_sum y_Ne_sum ∈ gt := gt_p (q := (⟨"PotentialBench$Needs", "sum", "(II)[I"⟩, 12)) (List.mem_of_getElem? (i := 26) (by decide +kernel))
theorem ws_Ne_add : Cond.selects "PotentialBench$Needs" y_Ne_add y_Ne_add ∈ gt := gt_p (q := (⟨"PotentialBench$Needs", "add", "(III)V"⟩, 12)) (List.mem_of_getElem? (i := 27) (by decide +kernel))
theorem ws_Ne_addBranches : Cond.selects "PotentialBench$Needs" y_Ne_addBranches y_Ne_addBranches ∈ gt := gt_p (q := (⟨"PotentialBench$Needs", "addBranches", "(III)V"⟩, 12)) (List.mem_of_getElem? (i := 28) (by decide +kernel))
theorem ws_Bo_others : Cond.selects "PotentialBench$Body" y_Bo_others y_Bo_others ∈ gt := gt_p (q := (⟨"PotentialBench$Body", "others", "(I)I"⟩, 9)) (List.mem_of_getElem? (i := 29) (by decide +kernel))
theorem ws_Ne_handDown : Cond.selects "PotentialBench$Needs" y_Ne_handDown y_Ne_handDown ∈ gt := gt_p (q := (⟨"PotentialBench$Needs", "handDown", "(I)V"⟩, 12)) (List.mem_of_getElem? (i := 30) (by decide +kernel))
theorem ws_Ne_atLeast : Cond.selects "PotentialBench$Needs" y_Ne_atLeast y_Ne_atLeast ∈ gt := gt_p (q := (⟨"PotentialBench$Needs", "atLeast", "(I[I)[I"⟩, 12)) (List.mem_of_getElem? (i := 31) (by decide +kernel))
theorem ws_Ne_coverOthers : Cond.selects "PotentialBench$Needs" y_Ne_coverOthers y_Ne_coverOthers ∈ gt := gt_p (q := (⟨"PotentialBench$Needs", "coverOthers", "(III)V"⟩, 12)) (List.mem_of_getElem? (i := 32) (by decide +kernel))
theorem ws_Ne_needOthers : Cond.selects "PotentialBench$Needs" y_Ne_needOthers y_Ne_needOthers ∈ gt := gt_p (q := (⟨"PotentialBench$Needs", "needOthers", "(III)V"⟩, 12)) (List.mem_of_getElem? (i := 33) (by decide +kernel))
theorem ws_Ne_addCall : Cond.selects "PotentialBench$Needs" y_Ne_addCall y_Ne_addCall ∈ gt := gt_p (q := (⟨"PotentialBench$Needs", "addCall", "(III)V"⟩, 12)) (List.mem_of_getElem? (i := 34) (by decide +kernel))
theorem ws_Ne_addThen : Cond.selects "PotentialBench$Needs" y_Ne_addThen y_Ne_addThen ∈ gt := gt_p (q := (⟨"PotentialBench$Needs", "addThen", "(III)V"⟩, 12)) (List.mem_of_getElem? (i := 35) (by decide +kernel))
theorem ws_Ne_addOnePart : Cond.selects "PotentialBench$Needs" y_Ne_addOnePart y_Ne_addOnePart ∈ gt := gt_p (q := (⟨"PotentialBench$Needs", "addOnePart", "(III)V"⟩, 12)) (List.mem_of_getElem? (i := 36) (by decide +kernel))
theorem ws_So_load : Cond.selects "PotentialBench$Solver" y_So_load y_So_load ∈ gt := gt_p (q := (⟨"PotentialBench$Solver", "load", "(LPotentialBench$Needs;II)V"⟩, 14)) (List.mem_of_getElem? (i := 37) (by decide +kernel))
theorem ws_Wh_trim : Cond.selects "PotentialBench$Whole" y_Wh_trim y_Wh_trim ∈ gt := gt_p (q := (⟨"PotentialBench$Whole", "trim", "(I)V"⟩, 3)) (List.mem_of_getElem? (i := 38) (by decide +kernel))
theorem ws_So_cell : Cond.selects "PotentialBench$Solver" y_So_cell y_So_cell ∈ gt := gt_p (q := (⟨"PotentialBench$Solver", "cell", "(II)LPotentialBench$Whole;"⟩, 14)) (List.mem_of_getElem? (i := 39) (by decide +kernel))
theorem ws_So_loadRow : Cond.selects "PotentialBench$Solver" y_So_loadRow y_So_loadRow ∈ gt := gt_p (q := (⟨"PotentialBench$Solver", "loadRow", "([I)V"⟩, 14)) (List.mem_of_getElem? (i := 40) (by decide +kernel))
theorem ws_So_solve : Cond.selects "PotentialBench$Solver" y_So_solve y_So_solve ∈ gt := gt_p (q := (⟨"PotentialBench$Solver", "solve", "()Z"⟩, 14)) (List.mem_of_getElem? (i := 41) (by decide +kernel))
theorem ws_So_lowestRow : Cond.selects "PotentialBench$Solver" y_So_lowestRow y_So_lowestRow ∈ gt := gt_p (q := (⟨"PotentialBench$Solver", "lowestRow", "()I"⟩, 14)) (List.mem_of_getElem? (i := 42) (by decide +kernel))
theorem ws_Wh_compareAmount : Cond.selects "PotentialBench$Whole" y_Wh_compareAmount y_Wh_compareAmount ∈ gt := gt_p (q := (⟨"PotentialBench$Whole", "compareAmount", "(LPotentialBench$Whole;)I"⟩, 3)) (List.mem_of_getElem? (i := 43) (by decide +kernel))
theorem ws_So_entering : Cond.selects "PotentialBench$Solver" y_So_entering y_So_entering ∈ gt := gt_p (q := (⟨"PotentialBench$Solver", "entering", "(I)I"⟩, 14)) (List.mem_of_getElem? (i := 44) (by decide +kernel))
theorem ws_So_isDearer : Cond.selects "PotentialBench$Solver" y_So_isDearer y_So_isDearer ∈ gt := gt_p (q := (⟨"PotentialBench$Solver", "isDearer", "(III)Z"⟩, 14)) (List.mem_of_getElem? (i := 45) (by decide +kernel))
theorem ws_So_compareIn : Cond.selects "PotentialBench$Solver" y_So_compareIn y_So_compareIn ∈ gt := gt_p (q := (⟨"PotentialBench$Solver", "compareIn", "(IIII)I"⟩, 14)) (List.mem_of_getElem? (i := 46) (by decide +kernel))
theorem ws_Wh_room : Cond.selects "PotentialBench$Whole" y_Wh_room y_Wh_room ∈ gt := gt_p (q := (⟨"PotentialBench$Whole", "room", "(I)V"⟩, 3)) (List.mem_of_getElem? (i := 47) (by decide +kernel))
theorem ws_So_exchange : Cond.selects "PotentialBench$Solver" y_So_exchange y_So_exchange ∈ gt := gt_p (q := (⟨"PotentialBench$Solver", "exchange", "(II)V"⟩, 14)) (List.mem_of_getElem? (i := 48) (by decide +kernel))
theorem ws_So_put : Cond.selects "PotentialBench$Solver" y_So_put y_So_put ∈ gt := gt_p (q := (⟨"PotentialBench$Solver", "put", "(LPotentialBench$Whole;LPotentialBench$Whole;LPotentialBench$Whole;)V"⟩, 14)) (List.mem_of_getElem? (i := 49) (by decide +kernel))
theorem ws_Wh_addAmount : Cond.selects "PotentialBench$Whole" y_Wh_addAmount y_Wh_addAmount ∈ gt := gt_p (q := (⟨"PotentialBench$Whole", "addAmount", "(LPotentialBench$Whole;)V"⟩, 3)) (List.mem_of_getElem? (i := 50) (by decide +kernel))
theorem ws_Wh_digit : Cond.selects "PotentialBench$Whole" y_Wh_digit y_Wh_digit ∈ gt := gt_p (q := (⟨"PotentialBench$Whole", "digit", "(I)I"⟩, 3)) (List.mem_of_getElem? (i := 51) (by decide +kernel))
theorem ws_Wh_differ : Cond.selects "PotentialBench$Whole" y_Wh_differ y_Wh_differ ∈ gt := gt_p (q := (⟨"PotentialBench$Whole", "differ", "(LPotentialBench$Whole;LPotentialBench$Whole;)V"⟩, 3)) (List.mem_of_getElem? (i := 52) (by decide +kernel))
theorem ws_Wh_divideByDigit : Cond.selects "PotentialBench$Whole" y_Wh_divideByDigit y_Wh_divideByDigit ∈ gt := gt_p (q := (⟨"PotentialBench$Whole", "divideByDigit", "(I)V"⟩, 3)) (List.mem_of_getElem? (i := 53) (by decide +kernel))
theorem ws_Wh_bitsFree : Cond.selects "PotentialBench$Whole" y_Wh_bitsFree y_Wh_bitsFree ∈ gt := gt_p (q := (⟨"PotentialBench$Whole", "bitsFree", "()I"⟩, 3)) (List.mem_of_getElem? (i := 54) (by decide +kernel))
theorem ws_Wh_shift : Cond.selects "PotentialBench$Whole" y_Wh_shift y_Wh_shift ∈ gt := gt_p (q := (⟨"PotentialBench$Whole", "shift", "(LPotentialBench$Whole;I)V"⟩, 3)) (List.mem_of_getElem? (i := 55) (by decide +kernel))
theorem ws_Wh_guess : Cond.selects "PotentialBench$Whole" y_Wh_guess y_Wh_guess ∈ gt := gt_p (q := (⟨"PotentialBench$Whole", "guess", "(LPotentialBench$Whole;II)J"⟩, 3)) (List.mem_of_getElem? (i := 56) (by decide +kernel))
theorem ws_Wh_takeOff : Cond.selects "PotentialBench$Whole" y_Wh_takeOff y_Wh_takeOff ∈ gt := gt_p (q := (⟨"PotentialBench$Whole", "takeOff", "(LPotentialBench$Whole;IIJ)J"⟩, 3)) (List.mem_of_getElem? (i := 57) (by decide +kernel))
theorem ws_So_swapUnknowns : Cond.selects "PotentialBench$Solver" y_So_swapUnknowns y_So_swapUnknowns ∈ gt := gt_p (q := (⟨"PotentialBench$Solver", "swapUnknowns", "(II)V"⟩, 14)) (List.mem_of_getElem? (i := 58) (by decide +kernel))
theorem ws_Be_take : Cond.selects "PotentialBench$Best" y_Be_take y_Be_take ∈ gt := gt_p (q := (⟨"PotentialBench$Best", "take", "(LPotentialBench$Solver;)V"⟩, 8)) (List.mem_of_getElem? (i := 59) (by decide +kernel))
theorem ws_So_tell : Cond.selects "PotentialBench$Solver" y_So_tell y_So_tell ∈ gt := gt_p (q := (⟨"PotentialBench$Solver", "tell", "(ILPotentialBench$Whole;)V"⟩, 14)) (List.mem_of_getElem? (i := 60) (by decide +kernel))
theorem ws_Be_has : Cond.selects "PotentialBench$Best" y_Be_has y_Be_has ∈ gt := gt_p (q := (⟨"PotentialBench$Best", "has", "(I)Z"⟩, 8)) (List.mem_of_getElem? (i := 61) (by decide +kernel))
theorem ws_Be_doubled : Cond.selects "PotentialBench$Best" y_Be_doubled y_Be_doubled ∈ gt := gt_p (q := (⟨"PotentialBench$Best", "doubled", "(II)J"⟩, 8)) (List.mem_of_getElem? (i := 62) (by decide +kernel))
theorem ws_Be_reaches : Cond.selects "PotentialBench$Best" y_Be_reaches y_Be_reaches ∈ gt := gt_p (q := (⟨"PotentialBench$Best", "reaches", "(IIIJ)Z"⟩, 8)) (List.mem_of_getElem? (i := 63) (by decide +kernel))
theorem ws_Be_addTimes : Cond.selects "PotentialBench$Best" y_Be_addTimes y_Be_addTimes ∈ gt := gt_p (q := (⟨"PotentialBench$Best", "addTimes", "(II)V"⟩, 8)) (List.mem_of_getElem? (i := 64) (by decide +kernel))
theorem ws_Mo_isFunction : Cond.selects "PotentialBenchModel" y_Mo_isFunction y_Mo_isFunction ∈ gt := gt_p (q := (⟨"PotentialBenchModel", "isFunction", "(I)Z"⟩, 61)) (List.mem_of_getElem? (i := 65) (by decide +kernel))
theorem ws_Mo_wrong : Cond.selects "PotentialBenchModel" y_Mo_wrong y_Mo_wrong ∈ gt := gt_p (q := (⟨"PotentialBenchModel", "wrong", "(I)I"⟩, 61)) (List.mem_of_getElem? (i := 66) (by decide +kernel))
theorem ws_Mo_wrongHead : Cond.selects "PotentialBenchModel" y_Mo_wrongHead y_Mo_wrongHead ∈ gt := gt_p (q := (⟨"PotentialBenchModel", "wrongHead", "(III)I"⟩, 61)) (List.mem_of_getElem? (i := 67) (by decide +kernel))
theorem ws_Mo_headOf : Cond.selects "PotentialBenchModel" y_Mo_headOf y_Mo_headOf ∈ gt := gt_p (q := (⟨"PotentialBenchModel", "headOf", "(II)I"⟩, 61)) (List.mem_of_getElem? (i := 68) (by decide +kernel))
theorem ws_Mo_close : Cond.selects "PotentialBenchModel" y_Mo_close y_Mo_close ∈ gt := gt_p (q := (⟨"PotentialBenchModel", "close", "(II)Z"⟩, 61)) (List.mem_of_getElem? (i := 69) (by decide +kernel))
theorem ws_Mo_knownBehind : Cond.selects "PotentialBenchModel" y_Mo_knownBehind y_Mo_knownBehind ∈ gt := gt_p (q := (⟨"PotentialBenchModel", "knownBehind", "(I)I"⟩, 61)) (List.mem_of_getElem? (i := 70) (by decide +kernel))
theorem ws_Mo_isRight : Cond.selects "PotentialBenchModel" y_Mo_isRight y_Mo_isRight ∈ gt := gt_p (q := (⟨"PotentialBenchModel", "isRight", "()Z"⟩, 61)) (List.mem_of_getElem? (i := 71) (by decide +kernel))
theorem ws_Mo_enter : Cond.selects "PotentialBenchModel" y_Mo_enter y_Mo_enter ∈ gt := gt_p (q := (⟨"PotentialBenchModel", "enter", "(II)V"⟩, 61)) (List.mem_of_getElem? (i := 72) (by decide +kernel))
theorem ws_Mo_beginOne : Cond.selects "PotentialBenchModel" y_Mo_beginOne y_Mo_beginOne ∈ gt := gt_p (q := (⟨"PotentialBenchModel", "beginOne", "()V"⟩, 61)) (List.mem_of_getElem? (i := 73) (by decide +kernel))
theorem ws_Mo_wait : Cond.selects "PotentialBenchModel" y_Mo_wait y_Mo_wait ∈ gt := gt_p (q := (⟨"PotentialBenchModel", "wait", "(II)V"⟩, 61)) (List.mem_of_getElem? (i := 74) (by decide +kernel))
theorem ws_Mo_giveOn : Cond.selects "PotentialBenchModel" y_Mo_giveOn y_Mo_giveOn ∈ gt := gt_p (q := (⟨"PotentialBenchModel", "giveOn", "()V"⟩, 61)) (List.mem_of_getElem? (i := 75) (by decide +kernel))
theorem ws_Mo_needBody : Cond.selects "PotentialBenchModel" y_Mo_needBody y_Mo_needBody ∈ gt := gt_p (q := (⟨"PotentialBenchModel", "needBody", "(I)V"⟩, 61)) (List.mem_of_getElem? (i := 76) (by decide +kernel))
theorem ws_Mo_clear : Cond.selects "PotentialBenchModel" y_Mo_clear y_Mo_clear ∈ gt := gt_p (q := (⟨"PotentialBenchModel", "clear", "(I)V"⟩, 61)) (List.mem_of_getElem? (i := 77) (by decide +kernel))
theorem ws_Mo_unknown : Cond.selects "PotentialBenchModel" y_Mo_unknown y_Mo_unknown ∈ gt := gt_p (q := (⟨"PotentialBenchModel", "unknown", "(II)I"⟩, 61)) (List.mem_of_getElem? (i := 78) (by decide +kernel))
theorem ws_Mo_needOf : Cond.selects "PotentialBenchModel" y_Mo_needOf y_Mo_needOf ∈ gt := gt_p (q := (⟨"PotentialBenchModel", "needOf", "(III)I"⟩, 61)) (List.mem_of_getElem? (i := 79) (by decide +kernel))
theorem ws_Mo_openNeed : Cond.selects "PotentialBenchModel" y_Mo_openNeed y_Mo_openNeed ∈ gt := gt_p (q := (⟨"PotentialBenchModel", "openNeed", "(IIII)V"⟩, 61)) (List.mem_of_getElem? (i := 80) (by decide +kernel))
theorem ws_Mo_newBlock : Cond.selects "PotentialBenchModel" y_Mo_newBlock y_Mo_newBlock ∈ gt := gt_p (q := (⟨"PotentialBenchModel", "newBlock", "(II)I"⟩, 61)) (List.mem_of_getElem? (i := 81) (by decide +kernel))
theorem ws_Mo_copy : Cond.selects "PotentialBenchModel" y_Mo_copy y_Mo_copy ∈ gt := gt_p (q := (⟨"PotentialBenchModel", "copy", "(II)V"⟩, 61)) (List.mem_of_getElem? (i := 82) (by decide +kernel))
theorem ws_Mo_firstOf : Cond.selects "PotentialBenchModel" y_Mo_firstOf y_Mo_firstOf ∈ gt := gt_p (q := (⟨"PotentialBenchModel", "firstOf", "(IIII)V"⟩, 61)) (List.mem_of_getElem? (i := 83) (by decide +kernel))
theorem ws_Mo_add : Cond.selects "PotentialBenchModel" y_Mo_add y_Mo_add ∈ gt := gt_p (q := (⟨"PotentialBenchModel", "add", "(II)V"⟩, 61)) (List.mem_of_getElem? (i := 84) (by decide +kernel))
theorem ws_Mo_needCall : Cond.selects "PotentialBenchModel" y_Mo_needCall y_Mo_needCall ∈ gt := gt_p (q := (⟨"PotentialBenchModel", "needCall", "(III)V"⟩, 61)) (List.mem_of_getElem? (i := 85) (by decide +kernel))
theorem ws_Mo_newUnknown : Cond.selects "PotentialBenchModel" y_Mo_newUnknown y_Mo_newUnknown ∈ gt := gt_p (q := (⟨"PotentialBenchModel", "newUnknown", "()I"⟩, 61)) (List.mem_of_getElem? (i := 86) (by decide +kernel))
theorem ws_Mo_newCondition : Cond.selects "PotentialBenchModel" y_Mo_newCondition y_Mo_newCondition ∈ gt := gt_p (q := (⟨"PotentialBenchModel", "newCondition", "()I"⟩, 61)) (List.mem_of_getElem? (i := 87) (by decide +kernel))
theorem ws_Mo_take : Cond.selects "PotentialBenchModel" y_Mo_take y_Mo_take ∈ gt := gt_p (q := (⟨"PotentialBenchModel", "take", "(II)V"⟩, 61)) (List.mem_of_getElem? (i := 88) (by decide +kernel))
theorem ws_Mo_atLeast : Cond.selects "PotentialBenchModel" y_Mo_atLeast y_Mo_atLeast ∈ gt := gt_p (q := (⟨"PotentialBenchModel", "atLeast", "(II)V"⟩, 61)) (List.mem_of_getElem? (i := 89) (by decide +kernel))
theorem ws_Mo_endNeed : Cond.selects "PotentialBenchModel" y_Mo_endNeed y_Mo_endNeed ∈ gt := gt_p (q := (⟨"PotentialBenchModel", "endNeed", "()V"⟩, 61)) (List.mem_of_getElem? (i := 90) (by decide +kernel))
theorem ws_Mo_secondOf : Cond.selects "PotentialBenchModel" y_Mo_secondOf y_Mo_secondOf ∈ gt := gt_p (q := (⟨"PotentialBenchModel", "secondOf", "(IIII)V"⟩, 61)) (List.mem_of_getElem? (i := 91) (by decide +kernel))
theorem ws_Mo_keepAll : Cond.selects "PotentialBenchModel" y_Mo_keepAll y_Mo_keepAll ∈ gt := gt_p (q := (⟨"PotentialBenchModel", "keepAll", "(II)V"⟩, 61)) (List.mem_of_getElem? (i := 92) (by decide +kernel))
theorem ws_Mo_thirdOf : Cond.selects "PotentialBenchModel" y_Mo_thirdOf y_Mo_thirdOf ∈ gt := gt_p (q := (⟨"PotentialBenchModel", "thirdOf", "(IIII)V"⟩, 61)) (List.mem_of_getElem? (i := 93) (by decide +kernel))
theorem ws_Mo_needMatch : Cond.selects "PotentialBenchModel" y_Mo_needMatch y_Mo_needMatch ∈ gt := gt_p (q := (⟨"PotentialBenchModel", "needMatch", "(IIIIII)V"⟩, 61)) (List.mem_of_getElem? (i := 94) (by decide +kernel))
theorem ws_Mo_isNamed : Cond.selects "PotentialBenchModel" y_Mo_isNamed y_Mo_isNamed ∈ gt := gt_p (q := (⟨"PotentialBenchModel", "isNamed", "(IIII)Z"⟩, 61)) (List.mem_of_getElem? (i := 95) (by decide +kernel))
theorem ws_Mo_lay : Cond.selects "PotentialBenchModel" y_Mo_lay y_Mo_lay ∈ gt := gt_p (q := (⟨"PotentialBenchModel", "lay", "(I)V"⟩, 61)) (List.mem_of_getElem? (i := 96) (by decide +kernel))
theorem ws_Mo_put : Cond.selects "PotentialBenchModel" y_Mo_put y_Mo_put ∈ gt := gt_p (q := (⟨"PotentialBenchModel", "put", "(IJ)V"⟩, 61)) (List.mem_of_getElem? (i := 97) (by decide +kernel))
theorem ws_Mo_reach : Cond.selects "PotentialBenchModel" y_Mo_reach y_Mo_reach ∈ gt := gt_p (q := (⟨"PotentialBenchModel", "reach", "()Z"⟩, 61)) (List.mem_of_getElem? (i := 98) (by decide +kernel))
theorem ws_Mo_exchange : Cond.selects "PotentialBenchModel" y_Mo_exchange y_Mo_exchange ∈ gt := gt_p (q := (⟨"PotentialBenchModel", "exchange", "(II)V"⟩, 61)) (List.mem_of_getElem? (i := 99) (by decide +kernel))
theorem ws_Mo_signOf : Cond.selects "PotentialBenchModel" y_Mo_signOf y_Mo_signOf ∈ gt := gt_p (q := (⟨"PotentialBenchModel", "signOf", "(I)I"⟩, 61)) (List.mem_of_getElem? (i := 100) (by decide +kernel))
theorem ws_Mo_rowBy : Cond.selects "PotentialBenchModel" y_Mo_rowBy y_Mo_rowBy ∈ gt := gt_p (q := (⟨"PotentialBenchModel", "rowBy", "(IIIZ)V"⟩, 61)) (List.mem_of_getElem? (i := 101) (by decide +kernel))
theorem ws_Mo_turn : Cond.selects "PotentialBenchModel" y_Mo_turn y_Mo_turn ∈ gt := gt_p (q := (⟨"PotentialBenchModel", "turn", "(I)V"⟩, 61)) (List.mem_of_getElem? (i := 102) (by decide +kernel))
theorem ws_Mo_times : Cond.selects "PotentialBenchModel" y_Mo_times y_Mo_times ∈ gt := gt_p (q := (⟨"PotentialBenchModel", "times", "(II[I)I"⟩, 61)) (List.mem_of_getElem? (i := 103) (by decide +kernel))
theorem ws_Mo_join : Cond.selects "PotentialBenchModel" y_Mo_join y_Mo_join ∈ gt := gt_p (q := (⟨"PotentialBenchModel", "join", "()V"⟩, 61)) (List.mem_of_getElem? (i := 104) (by decide +kernel))
theorem ws_Mo_addRows : Cond.selects "PotentialBenchModel" y_Mo_addRows y_Mo_addRows ∈ gt := gt_p (q := (⟨"PotentialBenchModel", "addRows", "()V"⟩, 61)) (List.mem_of_getElem? (i := 105) (by decide +kernel))
theorem ws_Mo_shiftInto : Cond.selects "PotentialBenchModel" y_Mo_shiftInto y_Mo_shiftInto ∈ gt := gt_p (q := (⟨"PotentialBenchModel", "shiftInto", "(III)V"⟩, 61)) (List.mem_of_getElem? (i := 106) (by decide +kernel))
theorem ws_Mo_raise : Cond.selects "PotentialBenchModel" y_Mo_raise y_Mo_raise ∈ gt := gt_p (q := (⟨"PotentialBenchModel", "raise", "(I)V"⟩, 61)) (List.mem_of_getElem? (i := 107) (by decide +kernel))
theorem ws_Mo_digit : Cond.selects "PotentialBenchModel" y_Mo_digit y_Mo_digit ∈ gt := gt_p (q := (⟨"PotentialBenchModel", "digit", "(II)I"⟩, 61)) (List.mem_of_getElem? (i := 108) (by decide +kernel))
theorem ws_Mo_swapOne : Cond.selects "PotentialBenchModel" y_Mo_swapOne y_Mo_swapOne ∈ gt := gt_p (q := (⟨"PotentialBenchModel", "swapOne", "(IZ)V"⟩, 61)) (List.mem_of_getElem? (i := 109) (by decide +kernel))
theorem ws_Mo_coming : Cond.selects "PotentialBenchModel" y_Mo_coming y_Mo_coming ∈ gt := gt_p (q := (⟨"PotentialBenchModel", "coming", "(II)I"⟩, 61)) (List.mem_of_getElem? (i := 110) (by decide +kernel))
theorem ws_Mo_giving : Cond.selects "PotentialBenchModel" y_Mo_giving y_Mo_giving ∈ gt := gt_p (q := (⟨"PotentialBenchModel", "giving", "(I)I"⟩, 61)) (List.mem_of_getElem? (i := 111) (by decide +kernel))
theorem ws_Mo_shareOf : Cond.selects "PotentialBenchModel" y_Mo_shareOf y_Mo_shareOf ∈ gt := gt_p (q := (⟨"PotentialBenchModel", "shareOf", "(III)I"⟩, 61)) (List.mem_of_getElem? (i := 112) (by decide +kernel))
theorem ws_Mo_improve : Cond.selects "PotentialBenchModel" y_Mo_improve y_Mo_improve ∈ gt := gt_p (q := (⟨"PotentialBenchModel", "improve", "()V"⟩, 61)) (List.mem_of_getElem? (i := 113) (by decide +kernel))
theorem ws_Mo_boundAt : Cond.selects "PotentialBenchModel" y_Mo_boundAt y_Mo_boundAt ∈ gt := gt_p (q := (⟨"PotentialBenchModel", "boundAt", "(I)I"⟩, 61)) (List.mem_of_getElem? (i := 114) (by decide +kernel))
theorem ws_Mo_sum : Cond.selects "PotentialBenchModel" y_Mo_sum y_Mo_sum ∈ gt := gt_p (q := (⟨"PotentialBenchModel", "sum", "(IIIII)V"⟩, 61)) (List.mem_of_getElem? (i := 115) (by decide +kernel))
