/-- where the bodies are, and how many lists they take -/
def bfO (bf : Nat → Option Nat) (tk : Nat → Nat) (nf bc o1 o2 o3 tk9 t1 t2 t3 : Nat) : Prop := ∀ g, g < nf → (bf g = some bc ∧ tk9 = tk g) ∨ (bf g = some o1 ∧ t1 = tk g) ∨ (bf g = some o2 ∧ t2 = tk g) ∨ (bf g = some o3 ∧ t3 = tk g)
theorem d_Re_expression_0 : decode c_Re_expression 0 = .ok (.aload_n 0, 1) := by decide +kernel
theorem d_Re_expression_1 : decode c_Re_expression 1 = .ok (.getfield 9, 3) := by decide +kernel
theorem d_Re_expression_4 : decode c_Re_expression 4 = .ok (.bipush (-2), 2) := by decide +kernel
theorem d_Re_expression_6 : decode c_Re_expression 6 = .ok (.if_icmp .ne 29, 3) := by decide +kernel
theorem d_Re_expression_9 : decode c_Re_expression 9 = .ok (.iload_n 2, 1) := by decide +kernel
theorem d_Re_expression_10 : decode c_Re_expression 10 = .ok (.bipush 16, 2) := by decide +kernel
theorem d_Re_expression_12 : decode c_Re_expression 12 = .ok (.if_icmp .gt 15, 3) := by decide +kernel
theorem d_Re_expression_15 : decode c_Re_expression 15 = .ok (.aload_n 0, 1) := by decide +kernel
theorem d_Re_expression_16 : decode c_Re_expression 16 = .ok (.getfield 19, 3) := by decide +kernel
theorem d_Re_expression_19 : decode c_Re_expression 19 = .ok (.getfield 29, 3) := by decide +kernel
theorem d_Re_expression_22 : decode c_Re_expression 22 = .ok (.bipush 40, 2) := by decide +kernel
theorem d_Re_expression_24 : decode c_Re_expression 24 = .ok (.if_icmp .ne 11, 3) := by decide +kernel
theorem d_Re_expression_27 : decode c_Re_expression 27 = .ok (.aload_n 0, 1) := by decide +kernel
theorem d_Re_expression_28 : decode c_Re_expression 28 = .ok (.aload_n 0, 1) := by decide +kernel
theorem d_Re_expression_29 : decode c_Re_expression 29 = .ok (.getfield 26, 3) := by decide +kernel
theorem d_Re_expression_32 : decode c_Re_expression 32 = .ok (.putfield 9, 3) := by decide +kernel
theorem d_Re_expression_35 : decode c_Re_expression 35 = .ok (.aload_n 0, 1) := by decide +kernel
theorem d_Re_expression_36 : decode c_Re_expression 36 = .ok (.iconst 0, 1) := by decide +kernel
theorem d_Re_expression_37 : decode c_Re_expression 37 = .ok (.bipush 6, 2) := by decide +kernel
theorem d_Re_expression_39 : decode c_Re_expression 39 = .ok (.invokevirtual 44, 3) := by decide +kernel
theorem d_Re_expression_42 : decode c_Re_expression 42 = .ok (.istore_n 3, 1) := by decide +kernel
theorem d_Re_expression_43 : decode c_Re_expression 43 = .ok (.aload_n 0, 1) := by decide +kernel
theorem d_Re_expression_44 : decode c_Re_expression 44 = .ok (.getfield 9, 3) := by decide +kernel
theorem d_Re_expression_47 : decode c_Re_expression 47 = .ok (.bipush (-2), 2) := by decide +kernel
theorem d_Re_expression_49 : decode c_Re_expression 49 = .ok (.if_icmp .eq 5, 3) := by decide +kernel
theorem d_Re_expression_52 : decode c_Re_expression 52 = .ok (.iconst 0, 1) := by decide +kernel
theorem d_Re_expression_53 : decode c_Re_expression 53 = .ok (.ireturn, 1) := by decide +kernel
theorem d_Re_expression_54 : decode c_Re_expression 54 = .ok (.aload_n 0, 1) := by decide +kernel
theorem d_Re_expression_55 : decode c_Re_expression 55 = .ok (.getfield 19, 3) := by decide +kernel
theorem d_Re_expression_58 : decode c_Re_expression 58 = .ok (.aload_n 0, 1) := by decide +kernel
theorem d_Re_expression_59 : decode c_Re_expression 59 = .ok (.getfield 26, 3) := by decide +kernel
theorem d_Re_expression_62 : decode c_Re_expression 62 = .ok (.iconst 1, 1) := by decide +kernel
theorem d_Re_expression_63 : decode c_Re_expression 63 = .ok (.isub, 1) := by decide +kernel
theorem d_Re_expression_64 : decode c_Re_expression 64 = .ok (.iload_n 1, 1) := by decide +kernel
theorem d_Re_expression_65 : decode c_Re_expression 65 = .ok (.invokevirtual 47, 3) := by decide +kernel
theorem d_Re_expression_68 : decode c_Re_expression 68 = .ok (.istore 4, 2) := by decide +kernel
theorem d_Re_expression_70 : decode c_Re_expression 70 = .ok (.iload_n 3, 1) := by decide +kernel
theorem d_Re_expression_71 : decode c_Re_expression 71 = .ok (.tableswitch 95 0 5 #[37, 40, 95, 78, 49, 69], 37) := by decide +kernel
theorem d_Re_expression_108 : decode c_Re_expression 108 = .ok (.goto 76, 3) := by decide +kernel
theorem d_Re_expression_111 : decode c_Re_expression 111 = .ok (.aload_n 0, 1) := by decide +kernel
theorem d_Re_expression_112 : decode c_Re_expression 112 = .ok (.iload 4, 2) := by decide +kernel
theorem d_Re_expression_114 : decode c_Re_expression 114 = .ok (.invokevirtual 50, 3) := by decide +kernel
theorem d_Re_expression_117 : decode c_Re_expression 117 = .ok (.goto 67, 3) := by decide +kernel
theorem d_Re_expression_120 : decode c_Re_expression 120 = .ok (.aload_n 0, 1) := by decide +kernel
theorem d_Re_expression_121 : decode c_Re_expression 121 = .ok (.iconst 0, 1) := by decide +kernel
theorem d_Re_expression_122 : decode c_Re_expression 122 = .ok (.sipush 1000, 3) := by decide +kernel
theorem d_Re_expression_125 : decode c_Re_expression 125 = .ok (.invokevirtual 44, 3) := by decide +kernel
theorem d_Re_expression_128 : decode c_Re_expression 128 = .ok (.pop, 1) := by decide +kernel
theorem d_Re_expression_129 : decode c_Re_expression 129 = .ok (.aload_n 0, 1) := by decide +kernel
theorem d_Re_expression_130 : decode c_Re_expression 130 = .ok (.iload 4, 2) := by decide +kernel
theorem d_Re_expression_132 : decode c_Re_expression 132 = .ok (.iload_n 2, 1) := by decide +kernel
theorem d_Re_expression_133 : decode c_Re_expression 133 = .ok (.iconst 0, 1) := by decide +kernel
theorem d_Re_expression_134 : decode c_Re_expression 134 = .ok (.invokevirtual 54, 3) := by decide +kernel
theorem d_Re_expression_137 : decode c_Re_expression 137 = .ok (.goto 47, 3) := by decide +kernel
theorem d_Re_expression_140 : decode c_Re_expression 140 = .ok (.aload_n 0, 1) := by decide +kernel
theorem d_Re_expression_141 : decode c_Re_expression 141 = .ok (.iload 4, 2) := by decide +kernel
theorem d_Re_expression_143 : decode c_Re_expression 143 = .ok (.invokevirtual 58, 3) := by decide +kernel
theorem d_Re_expression_146 : decode c_Re_expression 146 = .ok (.goto 38, 3) := by decide +kernel
theorem d_Re_expression_149 : decode c_Re_expression 149 = .ok (.aload_n 0, 1) := by decide +kernel
theorem d_Re_expression_150 : decode c_Re_expression 150 = .ok (.iload 4, 2) := by decide +kernel
theorem d_Re_expression_152 : decode c_Re_expression 152 = .ok (.invokevirtual 50, 3) := by decide +kernel
theorem d_Re_expression_155 : decode c_Re_expression 155 = .ok (.aload_n 0, 1) := by decide +kernel
theorem d_Re_expression_156 : decode c_Re_expression 156 = .ok (.iload 4, 2) := by decide +kernel
theorem d_Re_expression_158 : decode c_Re_expression 158 = .ok (.iload_n 2, 1) := by decide +kernel
theorem d_Re_expression_159 : decode c_Re_expression 159 = .ok (.iconst 1, 1) := by decide +kernel
theorem d_Re_expression_160 : decode c_Re_expression 160 = .ok (.invokevirtual 54, 3) := by decide +kernel
theorem d_Re_expression_163 : decode c_Re_expression 163 = .ok (.goto 21, 3) := by decide +kernel
theorem d_Re_expression_166 : decode c_Re_expression 166 = .ok (.aload_n 0, 1) := by decide +kernel
theorem d_Re_expression_167 : decode c_Re_expression 167 = .ok (.iload 4, 2) := by decide +kernel
theorem d_Re_expression_169 : decode c_Re_expression 169 = .ok (.iload_n 2, 1) := by decide +kernel
theorem d_Re_expression_170 : decode c_Re_expression 170 = .ok (.iload_n 3, 1) := by decide +kernel
theorem d_Re_expression_171 : decode c_Re_expression 171 = .ok (.bipush 6, 2) := by decide +kernel
theorem d_Re_expression_173 : decode c_Re_expression 173 = .ok (.if_icmp .ne 7, 3) := by decide +kernel
theorem d_Re_expression_176 : decode c_Re_expression 176 = .ok (.iconst 1, 1) := by decide +kernel
theorem d_Re_expression_177 : decode c_Re_expression 177 = .ok (.goto 4, 3) := by decide +kernel
theorem d_Re_expression_180 : decode c_Re_expression 180 = .ok (.iconst 0, 1) := by decide +kernel
theorem d_Re_expression_181 : decode c_Re_expression 181 = .ok (.invokevirtual 54, 3) := by decide +kernel
theorem d_Re_expression_184 : decode c_Re_expression 184 = .ok (.iload 4, 2) := by decide +kernel
theorem d_Re_expression_186 : decode c_Re_expression 186 = .ok (.ireturn, 1) := by decide +kernel
set_option maxRecDepth 100000 in
set_option maxHeartbeats 16000000 in
/-- expression, a place is wrong -/
theorem g_Re_expression_w (l : Launch) (G : va_G) (k : Nat → ClassId) (h0 : Nat) (s0 : Nat) (kn : Int32) (dp : Int32) (wr9 : Int32) (ra : Nat) (bc : Nat) (nf : Nat) (nx : Nat) (bw : Nat) (bst : Nat) (bfi : Nat) (bse : Nat) (bkn : Nat) (bnm : Nat) (tk9 : Nat) (sz9 : Nat) (nd9 : Nat) (wd : Nat → Int32) (hwr : wr9 ≠ -2) : CI l y_Re_expression c_Re_expression 5 .int { frames := 1, cells := 0, slots := 0, locals := 22 } [.ref h0, .int kn, .int dp] G k s0 [(h0, .inr (5, [.ref ra, .ref bc, .int (nI nf), .int (nI nx), .int wr9])), (bc, .inr (4, [.ref bw, .ref bst, .ref bfi, .ref bse, .ref bkn, .ref bnm, .int (nI tk9), .int (nI sz9), .int (nI nd9)])), (bw, .inl (k 0, 200, .inl wd))] (fun (r : Int32) (u : Unit) => r = 0 ∧ True) (fun u => [(h0, .inr (5, [.ref ra, .ref bc, .int (nI nf), .int (nI nx), .int wr9])), (bc, .inr (4, [.ref bw, .ref bst, .ref bfi, .ref bse, .ref bkn, .ref bnm, .int (nI tk9), .int (nI sz9), .int (nI nd9)])), (bw, .inl (k 0, 200, .inl wd))]) 0 0 := by
  refine met_start (by decide) (Nat.le_of_ble_eq_true rfl) ?_
  intro p e s m below meth c C K hA hsz S ls hl
  generalize va_A [(h0, .inr (5, [.ref ra, .ref bc, .int (nI nf), .int (nI nx), .int wr9])), (bc, .inr (4, [.ref bw, .ref bst, .ref bfi, .ref bse, .ref bkn, .ref bnm, .int (nI tk9), .int (nI sz9), .int (nI nd9)])), (bw, .inl (k 0, 200, .inl wd))] s0 = A at hA S ⊢
  have hx := C.1
  have hb := C.2.1
  have hl : lv_has ls 5 [(0, .ref h0), (1, .int kn), (2, .int dp)] := hl
  refine lv_aload_n hx hb d_Re_expression_0 rfl (lv_at hl 0 rfl) ?_
  refine r_get C K S 0 rfl rfl clOk_Re 4 (by decide) wf_Re_9 (v := .int wr9) rfl d_Re_expression_1 ?_
  refine lv_bipush (v := (-2)) hx hb d_Re_expression_4 (by decide) ?_
  refine lv_icmp_ne (tgt := 35) hx hb d_Re_expression_6 (by decide) (fun _ => ?_) (fun hq => absurd hq hwr)
  refine lv_aload_n hx hb d_Re_expression_35 rfl (lv_at hl 0 rfl) ?_
  refine lv_iconst (v := 0) hx hb d_Re_expression_36 (by decide) ?_
  refine lv_bipush (v := 6) hx hb d_Re_expression_37 (by decide) ?_
  refine r_backi (wi := [(h0, .inr (5, [.ref ra, .ref bc, .int (nI nf), .int (nI nx), .int wr9])), (bc, .inr (4, [.ref bw, .ref bst, .ref bfi, .ref bse, .ref bkn, .ref bnm, .int (nI tk9), .int (nI sz9), .int (nI nd9)])), (bw, .inl (k 0, 200, .inl wd))]) (wr := []) S hA [0, 1, 2] [] rfl rfl (by decide) (by decide) (va_runV (As := [.int 0, .int 6]) (rest := []) ⟨hx, hb, C.2.2.1, C.2.2.2.1, C.2.2.2.2.1⟩ (g_Re_number_w l G k h0 _ 0 6 wr9 ra bc nf nx bw bst bfi bse bkn bnm tk9 sz9 nd9 wd hwr) (k_virt (n := 2) C wc_Re_number rfl rfl wz_Re wm_Re_44 wn_Re_number ws_Re_number (by decide +kernel) ⟨(Nat.le_of_ble_eq_true rfl), (Nat.le_of_ble_eq_true rfl)⟩) (pr_nowV K S [0, 1, 2] (by decide) rfl 0 rfl rfl) rfl rfl hl.1 rfl (lv_room (Nat.le_of_ble_eq_true rfl)) d_Re_expression_39 ⟨(Nat.le_of_ble_eq_true rfl), (Nat.le_of_ble_eq_true rfl)⟩) (fun r3 u1 H locs hw2 S => ?_)
  have S : Sw G A s.heap _ _ [(h0, .inr (5, [.ref ra, .ref bc, .int (nI nf), .int (nI nx), .int wr9])), (bc, .inr (4, [.ref bw, .ref bst, .ref bfi, .ref bse, .ref bkn, .ref bnm, .int (nI tk9), .int (nI sz9), .int (nI nd9)])), (bw, .inl (k 0, 200, .inl wd))] := S
  obtain ⟨hw20, hp4⟩ := hw2
  obtain rfl : r3 = 0 := hw20
  refine lv_istore_n (lv' := [(3, .int 0), (0, .ref h0), (1, .int kn), (2, .int dp)]) hx hb d_Re_expression_42 rfl hl (by decide) rfl (fun ls hl => ?_)
  refine lv_aload_n hx hb d_Re_expression_43 rfl (lv_at hl 1 rfl) ?_
  refine r_get C K S 0 rfl rfl clOk_Re 4 (by decide) wf_Re_9 (v := .int wr9) rfl d_Re_expression_44 ?_
  refine lv_bipush (v := (-2)) hx hb d_Re_expression_47 (by decide) ?_
  refine lv_icmp_eq (tgt := 54) hx hb d_Re_expression_49 (by decide) (fun hq => absurd hq hwr) (fun _ => ?_)
  refine lv_iconst (v := 0) hx hb d_Re_expression_52 (by decide) ?_
  exact r_iret C K rfl () ⟨rfl, trivial⟩ (S.sub [0, 1, 2] (by decide) rfl) d_Re_expression_53 (Nat.le_of_ble_eq_true rfl) (Nat.le_of_ble_eq_true rfl)
theorem d_Re_parts_0 : decode c_Re_parts 0 = .ok (.aload_n 0, 1) := by decide +kernel
theorem d_Re_parts_1 : decode c_Re_parts 1 = .ok (.aload_n 0, 1) := by decide +kernel
theorem d_Re_parts_2 : decode c_Re_parts 2 = .ok (.getfield 19, 3) := by decide +kernel
theorem d_Re_parts_5 : decode c_Re_parts 5 = .ok (.getfield 61, 3) := by decide +kernel
theorem d_Re_parts_8 : decode c_Re_parts 8 = .ok (.iload_n 1, 1) := by decide +kernel
theorem d_Re_parts_9 : decode c_Re_parts 9 = .ok (.iaload, 1) := by decide +kernel
theorem d_Re_parts_10 : decode c_Re_parts 10 = .ok (.iload_n 2, 1) := by decide +kernel
theorem d_Re_parts_11 : decode c_Re_parts 11 = .ok (.iconst 1, 1) := by decide +kernel
theorem d_Re_parts_12 : decode c_Re_parts 12 = .ok (.iadd, 1) := by decide +kernel
theorem d_Re_parts_13 : decode c_Re_parts 13 = .ok (.invokevirtual 37, 3) := by decide +kernel
theorem d_Re_parts_16 : decode c_Re_parts 16 = .ok (.istore 4, 2) := by decide +kernel
theorem d_Re_parts_18 : decode c_Re_parts 18 = .ok (.aload_n 0, 1) := by decide +kernel
theorem d_Re_parts_19 : decode c_Re_parts 19 = .ok (.getfield 19, 3) := by decide +kernel
theorem d_Re_parts_22 : decode c_Re_parts 22 = .ok (.getfield 65, 3) := by decide +kernel
theorem d_Re_parts_25 : decode c_Re_parts 25 = .ok (.iload_n 1, 1) := by decide +kernel
theorem d_Re_parts_26 : decode c_Re_parts 26 = .ok (.iload 4, 2) := by decide +kernel
theorem d_Re_parts_28 : decode c_Re_parts 28 = .ok (.iastore, 1) := by decide +kernel
theorem d_Re_parts_29 : decode c_Re_parts 29 = .ok (.aload_n 0, 1) := by decide +kernel
theorem d_Re_parts_30 : decode c_Re_parts 30 = .ok (.getfield 19, 3) := by decide +kernel
theorem d_Re_parts_33 : decode c_Re_parts 33 = .ok (.getfield 68, 3) := by decide +kernel
theorem d_Re_parts_36 : decode c_Re_parts 36 = .ok (.iload_n 1, 1) := by decide +kernel
theorem d_Re_parts_37 : decode c_Re_parts 37 = .ok (.dup2, 1) := by decide +kernel
theorem d_Re_parts_38 : decode c_Re_parts 38 = .ok (.iaload, 1) := by decide +kernel
theorem d_Re_parts_39 : decode c_Re_parts 39 = .ok (.aload_n 0, 1) := by decide +kernel
theorem d_Re_parts_40 : decode c_Re_parts 40 = .ok (.getfield 19, 3) := by decide +kernel
theorem d_Re_parts_43 : decode c_Re_parts 43 = .ok (.getfield 68, 3) := by decide +kernel
theorem d_Re_parts_46 : decode c_Re_parts 46 = .ok (.iload 4, 2) := by decide +kernel
theorem d_Re_parts_48 : decode c_Re_parts 48 = .ok (.iaload, 1) := by decide +kernel
theorem d_Re_parts_49 : decode c_Re_parts 49 = .ok (.ior, 1) := by decide +kernel
theorem d_Re_parts_50 : decode c_Re_parts 50 = .ok (.iastore, 1) := by decide +kernel
theorem d_Re_parts_51 : decode c_Re_parts 51 = .ok (.iload_n 3, 1) := by decide +kernel
theorem d_Re_parts_52 : decode c_Re_parts 52 = .ok (.ifCond .eq 56, 3) := by decide +kernel
theorem d_Re_parts_55 : decode c_Re_parts 55 = .ok (.aload_n 0, 1) := by decide +kernel
theorem d_Re_parts_56 : decode c_Re_parts 56 = .ok (.aload_n 0, 1) := by decide +kernel
theorem d_Re_parts_57 : decode c_Re_parts 57 = .ok (.getfield 19, 3) := by decide +kernel
theorem d_Re_parts_60 : decode c_Re_parts 60 = .ok (.getfield 61, 3) := by decide +kernel
theorem d_Re_parts_63 : decode c_Re_parts 63 = .ok (.iload_n 1, 1) := by decide +kernel
theorem d_Re_parts_64 : decode c_Re_parts 64 = .ok (.iaload, 1) := by decide +kernel
theorem d_Re_parts_65 : decode c_Re_parts 65 = .ok (.iconst 1, 1) := by decide +kernel
theorem d_Re_parts_66 : decode c_Re_parts 66 = .ok (.iadd, 1) := by decide +kernel
theorem d_Re_parts_67 : decode c_Re_parts 67 = .ok (.iload_n 2, 1) := by decide +kernel
theorem d_Re_parts_68 : decode c_Re_parts 68 = .ok (.iconst 1, 1) := by decide +kernel
theorem d_Re_parts_69 : decode c_Re_parts 69 = .ok (.iadd, 1) := by decide +kernel
theorem d_Re_parts_70 : decode c_Re_parts 70 = .ok (.invokevirtual 37, 3) := by decide +kernel
theorem d_Re_parts_73 : decode c_Re_parts 73 = .ok (.istore 5, 2) := by decide +kernel
theorem d_Re_parts_75 : decode c_Re_parts 75 = .ok (.aload_n 0, 1) := by decide +kernel
theorem d_Re_parts_76 : decode c_Re_parts 76 = .ok (.getfield 19, 3) := by decide +kernel
theorem d_Re_parts_79 : decode c_Re_parts 79 = .ok (.getfield 71, 3) := by decide +kernel
theorem d_Re_parts_82 : decode c_Re_parts 82 = .ok (.iload_n 1, 1) := by decide +kernel
theorem d_Re_parts_83 : decode c_Re_parts 83 = .ok (.iload 5, 2) := by decide +kernel
theorem d_Re_parts_85 : decode c_Re_parts 85 = .ok (.iastore, 1) := by decide +kernel
theorem d_Re_parts_86 : decode c_Re_parts 86 = .ok (.aload_n 0, 1) := by decide +kernel
theorem d_Re_parts_87 : decode c_Re_parts 87 = .ok (.getfield 19, 3) := by decide +kernel
theorem d_Re_parts_90 : decode c_Re_parts 90 = .ok (.getfield 68, 3) := by decide +kernel
theorem d_Re_parts_93 : decode c_Re_parts 93 = .ok (.iload_n 1, 1) := by decide +kernel
theorem d_Re_parts_94 : decode c_Re_parts 94 = .ok (.dup2, 1) := by decide +kernel
theorem d_Re_parts_95 : decode c_Re_parts 95 = .ok (.iaload, 1) := by decide +kernel
theorem d_Re_parts_96 : decode c_Re_parts 96 = .ok (.aload_n 0, 1) := by decide +kernel
theorem d_Re_parts_97 : decode c_Re_parts 97 = .ok (.getfield 19, 3) := by decide +kernel
theorem d_Re_parts_100 : decode c_Re_parts 100 = .ok (.getfield 68, 3) := by decide +kernel
theorem d_Re_parts_103 : decode c_Re_parts 103 = .ok (.iload 5, 2) := by decide +kernel
theorem d_Re_parts_105 : decode c_Re_parts 105 = .ok (.iaload, 1) := by decide +kernel
theorem d_Re_parts_106 : decode c_Re_parts 106 = .ok (.ior, 1) := by decide +kernel
theorem d_Re_parts_107 : decode c_Re_parts 107 = .ok (.iastore, 1) := by decide +kernel
theorem d_Re_parts_108 : decode c_Re_parts 108 = .ok (.return_, 1) := by decide +kernel
set_option maxRecDepth 100000 in
set_option maxHeartbeats 16000000 in
/-- parts, a place is wrong -/
theorem g_Re_parts_w1 (l : Launch) (G : va_G) (k : Nat → ClassId) (h0 : Nat) (s0 : Nat) (x9 : Nat) (dp : Nat) (wr9 : Int32) (ra : Nat) (bc : Nat) (nf : Nat) (nx : Nat) (bw : Nat) (bst : Nat) (bfi : Nat) (bse : Nat) (bkn : Nat) (bnm : Nat) (tk9 : Nat) (sz9 : Nat) (nd9 : Nat) (wd : Nat → Int32) (fir : Nat → Nat) (sec : Nat → Nat) (kno : Nat → Nat) (nam : Nat → Nat) (hx9 : x9 < 40) (hwr : wr9 ≠ -2) : CV l y_Re_parts c_Re_parts 6 { frames := 2, cells := 0, slots := 0, locals := 46 } [.ref h0, .int (nI x9), .int (nI dp), .int 0] G k s0 [(h0, .inr (5, [.ref ra, .ref bc, .int (nI nf), .int (nI nx), .int wr9])), (bc, .inr (4, [.ref bw, .ref bst, .ref bfi, .ref bse, .ref bkn, .ref bnm, .int (nI tk9), .int (nI sz9), .int (nI nd9)])), (bw, .inl (k 0, 200, .inl wd)), (bfi, .inl (k 0, 40, .inl (fun i => nI (fir i)))), (bse, .inl (k 0, 40, .inl (fun i => nI (sec i)))), (bkn, .inl (k 0, 40, .inl (fun i => nI (kno i)))), (bnm, .inl (k 0, 40, .inl (fun i => nI (nam i))))] (fun (u : (Nat → Nat) × (Nat → Nat) × (Nat → Nat)) => True) (fun u => [(h0, .inr (5, [.ref ra, .ref bc, .int (nI nf), .int (nI nx), .int wr9])), (bc, .inr (4, [.ref bw, .ref bst, .ref bfi, .ref bse, .ref bkn, .ref bnm, .int (nI tk9), .int (nI sz9), .int (nI nd9)])), (bw, .inl (k 0, 200, .inl wd)), (bfi, .inl (k 0, 40, .inl (fun i => nI (u.1 i)))), (bse, .inl (k 0, 40, .inl (fun i => nI (u.2.1 i)))), (bkn, .inl (k 0, 40, .inl (fun i => nI (kno i)))), (bnm, .inl (k 0, 40, .inl (fun i => nI (u.2.2 i))))]) 0 0 := by
  refine met_start (by decide) (Nat.le_of_ble_eq_true rfl) ?_
  intro p e s m below meth c C K hA hsz S ls hl
  generalize va_A [(h0, .inr (5, [.ref ra, .ref bc, .int (nI nf), .int (nI nx), .int wr9])), (bc, .inr (4, [.ref bw, .ref bst, .ref bfi, .ref bse, .ref bkn, .ref bnm, .int (nI tk9), .int (nI sz9), .int (nI nd9)])), (bw, .inl (k 0, 200, .inl wd)), (bfi, .inl (k 0, 40, .inl (fun i => nI (fir i)))), (bse, .inl (k 0, 40, .inl (fun i => nI (sec i)))), (bkn, .inl (k 0, 40, .inl (fun i => nI (kno i)))), (bnm, .inl (k 0, 40, .inl (fun i => nI (nam i))))] s0 = A at hA S ⊢
  have hx := C.1
  have hb := C.2.1
  have hl : lv_has ls 6 [(0, .ref h0), (1, .int (nI x9)), (2, .int (nI dp)), (3, .int 0)] := hl
  refine lv_aload_n hx hb d_Re_parts_0 rfl (lv_at hl 0 rfl) ?_
  refine lv_aload_n hx hb d_Re_parts_1 rfl (lv_at hl 0 rfl) ?_
  refine r_get C K S 0 rfl rfl clOk_Re 1 (by decide) wf_Re_19 (v := .ref bc) rfl d_Re_parts_2 ?_
  refine r_getN C K S 1 rfl rfl clOk_Bo 4 (by decide) xf_Re_61 (v := .ref bkn) rfl d_Re_parts_5 ?_
  refine lv_iload_n hx hb d_Re_parts_8 rfl (lv_at hl 1 rfl) ?_
  refine r_iald C K S 5 rfl (i := nI x9) (show vp_in (nI x9) _ from vp_in_nI (n := x9) (by omega) (by decide)) (v := nI (kno x9)) (by rw [nI_clamp (by omega)]) d_Re_parts_9 ?_
  refine lv_iload_n hx hb d_Re_parts_10 rfl (lv_at hl 2 rfl) ?_
  refine lv_iconst (v := 1) hx hb d_Re_parts_11 (by decide) ?_
  refine z_iadd (x := nI dp) (y := 1) (v := nI (dp + 1)) hx hb d_Re_parts_12 (nI_add dp 1) ?_
  refine r_backi (wi := [(h0, .inr (5, [.ref ra, .ref bc, .int (nI nf), .int (nI nx), .int wr9])), (bc, .inr (4, [.ref bw, .ref bst, .ref bfi, .ref bse, .ref bkn, .ref bnm, .int (nI tk9), .int (nI sz9), .int (nI nd9)])), (bw, .inl (k 0, 200, .inl wd))]) (wr := [(bfi, .inl (k 0, 40, .inl (fun i => nI (fir i)))), (bse, .inl (k 0, 40, .inl (fun i => nI (sec i)))), (bkn, .inl (k 0, 40, .inl (fun i => nI (kno i)))), (bnm, .inl (k 0, 40, .inl (fun i => nI (nam i))))]) S hA [0, 1, 2] [3, 4, 5, 6] rfl rfl (by decide) (by decide) (va_runV (As := [.int (nI (kno x9)), .int (nI (dp + 1))]) (rest := []) ⟨hx, hb, C.2.2.1, C.2.2.2.1, C.2.2.2.2.1⟩ (g_Re_expression_w l G k h0 _ (nI (kno x9)) (nI (dp + 1)) wr9 ra bc nf nx bw bst bfi bse bkn bnm tk9 sz9 nd9 wd hwr) (k_virt (n := 2) C wc_Re_expression rfl rfl wz_Re wm_Re_37 wn_Re_expression ws_Re_expression (by decide +kernel) ⟨(Nat.le_of_ble_eq_true rfl), (Nat.le_of_ble_eq_true rfl)⟩) (pr_nowV K S [0, 1, 2] (by decide) rfl 0 rfl rfl) rfl rfl hl.1 rfl (lv_room (Nat.le_of_ble_eq_true rfl)) d_Re_parts_13 ⟨(Nat.le_of_ble_eq_true rfl), (Nat.le_of_ble_eq_true rfl)⟩) (fun r3 u1 H locs hw2 S => ?_)
  have S : Sw G A s.heap _ _ [(bfi, .inl (k 0, 40, .inl (fun i => nI (fir i)))), (bse, .inl (k 0, 40, .inl (fun i => nI (sec i)))), (bkn, .inl (k 0, 40, .inl (fun i => nI (kno i)))), (bnm, .inl (k 0, 40, .inl (fun i => nI (nam i)))), (h0, .inr (5, [.ref ra, .ref bc, .int (nI nf), .int (nI nx), .int wr9])), (bc, .inr (4, [.ref bw, .ref bst, .ref bfi, .ref bse, .ref bkn, .ref bnm, .int (nI tk9), .int (nI sz9), .int (nI nd9)])), (bw, .inl (k 0, 200, .inl wd))] := S
  obtain ⟨hw20, hp4⟩ := hw2
  obtain rfl : r3 = 0 := hw20
  refine lv_istore (lv' := [(4, .int 0), (0, .ref h0), (1, .int (nI x9)), (2, .int (nI dp)), (3, .int 0)]) hx hb d_Re_parts_16 hl (by decide) rfl (fun ls hl => ?_)
  refine lv_aload_n hx hb d_Re_parts_18 rfl (lv_at hl 1 rfl) ?_
  refine r_get C K S 4 rfl rfl clOk_Re 1 (by decide) wf_Re_19 (v := .ref bc) rfl d_Re_parts_19 ?_
  refine r_getN C K S 5 rfl rfl clOk_Bo 2 (by decide) xf_Re_65 (v := .ref bfi) rfl d_Re_parts_22 ?_
  refine lv_iload_n hx hb d_Re_parts_25 rfl (lv_at hl 2 rfl) ?_
  refine lv_iload hx hb d_Re_parts_26 (lv_at hl 0 rfl) ?_
  refine r_iast C K S 0 rfl (i := nI x9) (x := 0) (show vp_in (nI x9) _ from vp_in_nI (n := x9) (by omega) (by decide)) (f' := fun i => nI (va_up fir x9 0 i)) (ws' := [(bfi, .inl (k 0, 40, .inl (fun i => nI (va_up fir x9 0 i)))), (bse, .inl (k 0, 40, .inl (fun i => nI (sec i)))), (bkn, .inl (k 0, 40, .inl (fun i => nI (kno i)))), (bnm, .inl (k 0, 40, .inl (fun i => nI (nam i)))), (h0, .inr (5, [.ref ra, .ref bc, .int (nI nf), .int (nI nx), .int wr9])), (bc, .inr (4, [.ref bw, .ref bst, .ref bfi, .ref bse, .ref bkn, .ref bnm, .int (nI tk9), .int (nI sz9), .int (nI nd9)])), (bw, .inl (k 0, 200, .inl wd))]) (show upd _ (nI x9 : Int32).toNatClampNeg 0 = _ from upd_nI fir (j := x9) (by omega) 0) rfl d_Re_parts_28 (fun H locs S => ?_)
  refine lv_aload_n hx hb d_Re_parts_29 rfl (lv_at hl 1 rfl) ?_
  refine r_get C K S 4 rfl rfl clOk_Re 1 (by decide) wf_Re_19 (v := .ref bc) rfl d_Re_parts_30 ?_
  refine r_getN C K S 5 rfl rfl clOk_Bo 5 (by decide) xf_Re_68 (v := .ref bnm) rfl d_Re_parts_33 ?_
  refine lv_iload_n hx hb d_Re_parts_36 rfl (lv_at hl 2 rfl) ?_
  refine lv_dup2_11 hx hb d_Re_parts_37 rfl rfl ?_
  refine r_iald C K S 3 rfl (i := nI x9) (show vp_in (nI x9) _ from vp_in_nI (n := x9) (by omega) (by decide)) (v := nI (nam x9)) (by rw [nI_clamp (by omega)]) d_Re_parts_38 ?_
  refine lv_aload_n hx hb d_Re_parts_39 rfl (lv_at hl 1 rfl) ?_
  refine r_get C K S 4 rfl rfl clOk_Re 1 (by decide) wf_Re_19 (v := .ref bc) rfl d_Re_parts_40 ?_
  refine r_getN C K S 5 rfl rfl clOk_Bo 5 (by decide) xf_Re_68 (v := .ref bnm) rfl d_Re_parts_43 ?_
  refine lv_iload hx hb d_Re_parts_46 (lv_at hl 0 rfl) ?_
  refine r_iald C K S 3 rfl (i := 0) (by unfold vp_in; decide) (v := nI (nam 0)) (by rw [show (0 : Int32).toNatClampNeg = 0 from by decide]) d_Re_parts_48 ?_
  refine z_ior (v := nI (nam x9 ||| nam 0)) hx hb d_Re_parts_49 (nx_or _ _) ?_
  refine r_iast C K S 3 rfl (i := nI x9) (x := nI (nam x9 ||| nam 0)) (show vp_in (nI x9) _ from vp_in_nI (n := x9) (by omega) (by decide)) (f' := fun i => nI (va_up nam x9 (nam x9 ||| nam 0) i)) (ws' := [(bfi, .inl (k 0, 40, .inl (fun i => nI (va_up fir x9 0 i)))), (bse, .inl (k 0, 40, .inl (fun i => nI (sec i)))), (bkn, .inl (k 0, 40, .inl (fun i => nI (kno i)))), (bnm, .inl (k 0, 40, .inl (fun i => nI (va_up nam x9 (nam x9 ||| nam 0) i)))), (h0, .inr (5, [.ref ra, .ref bc, .int (nI nf), .int (nI nx), .int wr9])), (bc, .inr (4, [.ref bw, .ref bst, .ref bfi, .ref bse, .ref bkn, .ref bnm, .int (nI tk9), .int (nI sz9), .int (nI nd9)])), (bw, .inl (k 0, 200, .inl wd))]) (show upd _ (nI x9 : Int32).toNatClampNeg (nI (nam x9 ||| nam 0)) = _ from upd_nI nam (j := x9) (by omega) (nam x9 ||| nam 0)) rfl d_Re_parts_50 (fun H locs S => ?_)
  refine lv_iload_n hx hb d_Re_parts_51 rfl (lv_at hl 4 rfl) ?_
  refine lv_if_eq (tgt := 108) hx hb d_Re_parts_52 (by decide) (fun _ => ?_) (fun hq => absurd (by decide) hq)
  exact r_vret C K (va_up fir x9 0, sec, (va_up nam x9 (nam x9 ||| nam 0))) trivial (S.sub [4, 5, 6, 0, 1, 2, 3] (by decide) rfl) d_Re_parts_108 (Nat.le_of_ble_eq_true rfl) (Nat.le_of_ble_eq_true rfl)
set_option maxRecDepth 100000 in
set_option maxHeartbeats 16000000 in
/-- parts, a place is wrong -/
theorem g_Re_parts_w2 (l : Launch) (G : va_G) (k : Nat → ClassId) (h0 : Nat) (s0 : Nat) (x9 : Nat) (dp : Nat) (wr9 : Int32) (ra : Nat) (bc : Nat) (nf : Nat) (nx : Nat) (bw : Nat) (bst : Nat) (bfi : Nat) (bse : Nat) (bkn : Nat) (bnm : Nat) (tk9 : Nat) (sz9 : Nat) (nd9 : Nat) (wd : Nat → Int32) (fir : Nat → Nat) (sec : Nat → Nat) (kno : Nat → Nat) (nam : Nat → Nat) (hx9 : x9 < 40) (hwr : wr9 ≠ -2) : CV l y_Re_parts c_Re_parts 6 { frames := 2, cells := 0, slots := 0, locals := 46 } [.ref h0, .int (nI x9), .int (nI dp), .int 1] G k s0 [(h0, .inr (5, [.ref ra, .ref bc, .int (nI nf), .int (nI nx), .int wr9])), (bc, .inr (4, [.ref bw, .ref bst, .ref bfi, .ref bse, .ref bkn, .ref bnm, .int (nI tk9), .int (nI sz9), .int (nI nd9)])), (bw, .inl (k 0, 200, .inl wd)), (bfi, .inl (k 0, 40, .inl (fun i => nI (fir i)))), (bse, .inl (k 0, 40, .inl (fun i => nI (sec i)))), (bkn, .inl (k 0, 40, .inl (fun i => nI (kno i)))), (bnm, .inl (k 0, 40, .inl (fun i => nI (nam i))))] (fun (u : (Nat → Nat) × (Nat → Nat) × (Nat → Nat)) => True) (fun u => [(h0, .inr (5, [.ref ra, .ref bc, .int (nI nf), .int (nI nx), .int wr9])), (bc, .inr (4, [.ref bw, .ref bst, .ref bfi, .ref bse, .ref bkn, .ref bnm, .int (nI tk9), .int (nI sz9), .int (nI nd9)])), (bw, .inl (k 0, 200, .inl wd)), (bfi, .inl (k 0, 40, .inl (fun i => nI (u.1 i)))), (bse, .inl (k 0, 40, .inl (fun i => nI (u.2.1 i)))), (bkn, .inl (k 0, 40, .inl (fun i => nI (kno i)))), (bnm, .inl (k 0, 40, .inl (fun i => nI (u.2.2 i))))]) 0 0 := by
  refine met_start (by decide) (Nat.le_of_ble_eq_true rfl) ?_
  intro p e s m below meth c C K hA hsz S ls hl
  generalize va_A [(h0, .inr (5, [.ref ra, .ref bc, .int (nI nf), .int (nI nx), .int wr9])), (bc, .inr (4, [.ref bw, .ref bst, .ref bfi, .ref bse, .ref bkn, .ref bnm, .int (nI tk9), .int (nI sz9), .int (nI nd9)])), (bw, .inl (k 0, 200, .inl wd)), (bfi, .inl (k 0, 40, .inl (fun i => nI (fir i)))), (bse, .inl (k 0, 40, .inl (fun i => nI (sec i)))), (bkn, .inl (k 0, 40, .inl (fun i => nI (kno i)))), (bnm, .inl (k 0, 40, .inl (fun i => nI (nam i))))] s0 = A at hA S ⊢
  have hx := C.1
  have hb := C.2.1
  have hl : lv_has ls 6 [(0, .ref h0), (1, .int (nI x9)), (2, .int (nI dp)), (3, .int 1)] := hl
  refine lv_aload_n hx hb d_Re_parts_0 rfl (lv_at hl 0 rfl) ?_
  refine lv_aload_n hx hb d_Re_parts_1 rfl (lv_at hl 0 rfl) ?_
  refine r_get C K S 0 rfl rfl clOk_Re 1 (by decide) wf_Re_19 (v := .ref bc) rfl d_Re_parts_2 ?_
  refine r_getN C K S 1 rfl rfl clOk_Bo 4 (by decide) xf_Re_61 (v := .ref bkn) rfl d_Re_parts_5 ?_
  refine lv_iload_n hx hb d_Re_parts_8 rfl (lv_at hl 1 rfl) ?_
  refine r_iald C K S 5 rfl (i := nI x9) (show vp_in (nI x9) _ from vp_in_nI (n := x9) (by omega) (by decide)) (v := nI (kno x9)) (by rw [nI_clamp (by omega)]) d_Re_parts_9 ?_
  refine lv_iload_n hx hb d_Re_parts_10 rfl (lv_at hl 2 rfl) ?_
  refine lv_iconst (v := 1) hx hb d_Re_parts_11 (by decide) ?_
  refine z_iadd (x := nI dp) (y := 1) (v := nI (dp + 1)) hx hb d_Re_parts_12 (nI_add dp 1) ?_
  refine r_backi (wi := [(h0, .inr (5, [.ref ra, .ref bc, .int (nI nf), .int (nI nx), .int wr9])), (bc, .inr (4, [.ref bw, .ref bst, .ref bfi, .ref bse, .ref bkn, .ref bnm, .int (nI tk9), .int (nI sz9), .int (nI nd9)])), (bw, .inl (k 0, 200, .inl wd))]) (wr := [(bfi, .inl (k 0, 40, .inl (fun i => nI (fir i)))), (bse, .inl (k 0, 40, .inl (fun i => nI (sec i)))), (bkn, .inl (k 0, 40, .inl (fun i => nI (kno i)))), (bnm, .inl (k 0, 40, .inl (fun i => nI (nam i))))]) S hA [0, 1, 2] [3, 4, 5, 6] rfl rfl (by decide) (by decide) (va_runV (As := [.int (nI (kno x9)), .int (nI (dp + 1))]) (rest := []) ⟨hx, hb, C.2.2.1, C.2.2.2.1, C.2.2.2.2.1⟩ (g_Re_expression_w l G k h0 _ (nI (kno x9)) (nI (dp + 1)) wr9 ra bc nf nx bw bst bfi bse bkn bnm tk9 sz9 nd9 wd hwr) (k_virt (n := 2) C wc_Re_expression rfl rfl wz_Re wm_Re_37 wn_Re_expression ws_Re_expression (by decide +kernel) ⟨(Nat.le_of_ble_eq_true rfl), (Nat.le_of_ble_eq_true rfl)⟩) (pr_nowV K S [0, 1, 2] (by decide) rfl 0 rfl rfl) rfl rfl hl.1 rfl (lv_room (Nat.le_of_ble_eq_true rfl)) d_Re_parts_13 ⟨(Nat.le_of_ble_eq_true rfl), (Nat.le_of_ble_eq_true rfl)⟩) (fun r3 u1 H locs hw2 S => ?_)
  have S : Sw G A s.heap _ _ [(bfi, .inl (k 0, 40, .inl (fun i => nI (fir i)))), (bse, .inl (k 0, 40, .inl (fun i => nI (sec i)))), (bkn, .inl (k 0, 40, .inl (fun i => nI (kno i)))), (bnm, .inl (k 0, 40, .inl (fun i => nI (nam i)))), (h0, .inr (5, [.ref ra, .ref bc, .int (nI nf), .int (nI nx), .int wr9])), (bc, .inr (4, [.ref bw, .ref bst, .ref bfi, .ref bse, .ref bkn, .ref bnm, .int (nI tk9), .int (nI sz9), .int (nI nd9)])), (bw, .inl (k 0, 200, .inl wd))] := S
  obtain ⟨hw20, hp4⟩ := hw2
  obtain rfl : r3 = 0 := hw20
  refine lv_istore (lv' := [(4, .int 0), (0, .ref h0), (1, .int (nI x9)), (2, .int (nI dp)), (3, .int 1)]) hx hb d_Re_parts_16 hl (by decide) rfl (fun ls hl => ?_)
  refine lv_aload_n hx hb d_Re_parts_18 rfl (lv_at hl 1 rfl) ?_
  refine r_get C K S 4 rfl rfl clOk_Re 1 (by decide) wf_Re_19 (v := .ref bc) rfl d_Re_parts_19 ?_
  refine r_getN C K S 5 rfl rfl clOk_Bo 2 (by decide) xf_Re_65 (v := .ref bfi) rfl d_Re_parts_22 ?_
  refine lv_iload_n hx hb d_Re_parts_25 rfl (lv_at hl 2 rfl) ?_
  refine lv_iload hx hb d_Re_parts_26 (lv_at hl 0 rfl) ?_
  refine r_iast C K S 0 rfl (i := nI x9) (x := 0) (show vp_in (nI x9) _ from vp_in_nI (n := x9) (by omega) (by decide)) (f' := fun i => nI (va_up fir x9 0 i)) (ws' := [(bfi, .inl (k 0, 40, .inl (fun i => nI (va_up fir x9 0 i)))), (bse, .inl (k 0, 40, .inl (fun i => nI (sec i)))), (bkn, .inl (k 0, 40, .inl (fun i => nI (kno i)))), (bnm, .inl (k 0, 40, .inl (fun i => nI (nam i)))), (h0, .inr (5, [.ref ra, .ref bc, .int (nI nf), .int (nI nx), .int wr9])), (bc, .inr (4, [.ref bw, .ref bst, .ref bfi, .ref bse, .ref bkn, .ref bnm, .int (nI tk9), .int (nI sz9), .int (nI nd9)])), (bw, .inl (k 0, 200, .inl wd))]) (show upd _ (nI x9 : Int32).toNatClampNeg 0 = _ from upd_nI fir (j := x9) (by omega) 0) rfl d_Re_parts_28 (fun H locs S => ?_)
  refine lv_aload_n hx hb d_Re_parts_29 rfl (lv_at hl 1 rfl) ?_
  refine r_get C K S 4 rfl rfl clOk_Re 1 (by decide) wf_Re_19 (v := .ref bc) rfl d_Re_parts_30 ?_
  refine r_getN C K S 5 rfl rfl clOk_Bo 5 (by decide) xf_Re_68 (v := .ref bnm) rfl d_Re_parts_33 ?_
  refine lv_iload_n hx hb d_Re_parts_36 rfl (lv_at hl 2 rfl) ?_
  refine lv_dup2_11 hx hb d_Re_parts_37 rfl rfl ?_
  refine r_iald C K S 3 rfl (i := nI x9) (show vp_in (nI x9) _ from vp_in_nI (n := x9) (by omega) (by decide)) (v := nI (nam x9)) (by rw [nI_clamp (by omega)]) d_Re_parts_38 ?_
  refine lv_aload_n hx hb d_Re_parts_39 rfl (lv_at hl 1 rfl) ?_
  refine r_get C K S 4 rfl rfl clOk_Re 1 (by decide) wf_Re_19 (v := .ref bc) rfl d_Re_parts_40 ?_
  refine r_getN C K S 5 rfl rfl clOk_Bo 5 (by decide) xf_Re_68 (v := .ref bnm) rfl d_Re_parts_43 ?_
  refine lv_iload hx hb d_Re_parts_46 (lv_at hl 0 rfl) ?_
  refine r_iald C K S 3 rfl (i := 0) (by unfold vp_in; decide) (v := nI (nam 0)) (by rw [show (0 : Int32).toNatClampNeg = 0 from by decide]) d_Re_parts_48 ?_
  refine z_ior (v := nI (nam x9 ||| nam 0)) hx hb d_Re_parts_49 (nx_or _ _) ?_
  refine r_iast C K S 3 rfl (i := nI x9) (x := nI (nam x9 ||| nam 0)) (show vp_in (nI x9) _ from vp_in_nI (n := x9) (by omega) (by decide)) (f' := fun i => nI (va_up nam x9 (nam x9 ||| nam 0) i)) (ws' := [(bfi, .inl (k 0, 40, .inl (fun i => nI (va_up fir x9 0 i)))), (bse, .inl (k 0, 40, .inl (fun i => nI (sec i)))), (bkn, .inl (k 0, 40, .inl (fun i => nI (kno i)))), (bnm, .inl (k 0, 40, .inl (fun i => nI (va_up nam x9 (nam x9 ||| nam 0) i)))), (h0, .inr (5, [.ref ra, .ref bc, .int (nI nf), .int (nI nx), .int wr9])), (bc, .inr (4, [.ref bw, .ref bst, .ref bfi, .ref bse, .ref bkn, .ref bnm, .int (nI tk9), .int (nI sz9), .int (nI nd9)])), (bw, .inl (k 0, 200, .inl wd))]) (show upd _ (nI x9 : Int32).toNatClampNeg (nI (nam x9 ||| nam 0)) = _ from upd_nI nam (j := x9) (by omega) (nam x9 ||| nam 0)) rfl d_Re_parts_50 (fun H locs S => ?_)
  refine lv_iload_n hx hb d_Re_parts_51 rfl (lv_at hl 4 rfl) ?_
  refine lv_if_eq (tgt := 108) hx hb d_Re_parts_52 (by decide) (fun hq => absurd hq (by decide)) (fun _ => ?_)
  refine lv_aload_n hx hb d_Re_parts_55 rfl (lv_at hl 1 rfl) ?_
  refine lv_aload_n hx hb d_Re_parts_56 rfl (lv_at hl 1 rfl) ?_
  refine r_get C K S 4 rfl rfl clOk_Re 1 (by decide) wf_Re_19 (v := .ref bc) rfl d_Re_parts_57 ?_
  refine r_getN C K S 5 rfl rfl clOk_Bo 4 (by decide) xf_Re_61 (v := .ref bkn) rfl d_Re_parts_60 ?_
  refine lv_iload_n hx hb d_Re_parts_63 rfl (lv_at hl 2 rfl) ?_
  refine r_iald C K S 2 rfl (i := nI x9) (show vp_in (nI x9) _ from vp_in_nI (n := x9) (by omega) (by decide)) (v := nI (kno x9)) (by rw [nI_clamp (by omega)]) d_Re_parts_64 ?_
  refine lv_iconst (v := 1) hx hb d_Re_parts_65 (by decide) ?_
  refine z_iadd (x := nI (kno x9)) (y := 1) (v := nI (kno x9 + 1)) hx hb d_Re_parts_66 (nI_add (kno x9) 1) ?_
  refine lv_iload_n hx hb d_Re_parts_67 rfl (lv_at hl 3 rfl) ?_
  refine lv_iconst (v := 1) hx hb d_Re_parts_68 (by decide) ?_
  refine z_iadd (x := nI dp) (y := 1) (v := nI (dp + 1)) hx hb d_Re_parts_69 (nI_add dp 1) ?_
  refine r_backi (wi := [(h0, .inr (5, [.ref ra, .ref bc, .int (nI nf), .int (nI nx), .int wr9])), (bc, .inr (4, [.ref bw, .ref bst, .ref bfi, .ref bse, .ref bkn, .ref bnm, .int (nI tk9), .int (nI sz9), .int (nI nd9)])), (bw, .inl (k 0, 200, .inl wd))]) (wr := [(bfi, .inl (k 0, 40, .inl (fun i => nI (va_up fir x9 0 i)))), (bse, .inl (k 0, 40, .inl (fun i => nI (sec i)))), (bkn, .inl (k 0, 40, .inl (fun i => nI (kno i)))), (bnm, .inl (k 0, 40, .inl (fun i => nI (va_up nam x9 (nam x9 ||| nam 0) i))))]) S hA [4, 5, 6] [0, 1, 2, 3] rfl rfl (by decide) (by decide) (va_runV (As := [.int (nI (kno x9 + 1)), .int (nI (dp + 1))]) (rest := []) ⟨hx, hb, C.2.2.1, C.2.2.2.1, C.2.2.2.2.1⟩ (g_Re_expression_w l G k h0 _ (nI (kno x9 + 1)) (nI (dp + 1)) wr9 ra bc nf nx bw bst bfi bse bkn bnm tk9 sz9 nd9 wd hwr) (k_virt (n := 2) C wc_Re_expression rfl rfl wz_Re wm_Re_37 wn_Re_expression ws_Re_expression (by decide +kernel) ⟨(Nat.le_of_ble_eq_true rfl), (Nat.le_of_ble_eq_true rfl)⟩) (pr_nowV K S [4, 5, 6] (by decide) rfl 4 rfl rfl) rfl rfl hl.1 rfl (lv_room (Nat.le_of_ble_eq_true rfl)) d_Re_parts_70 ⟨(Nat.le_of_ble_eq_true rfl), (Nat.le_of_ble_eq_true rfl)⟩) (fun r7 u5 H locs hw6 S => ?_)
  have S : Sw G A s.heap _ _ [(bfi, .inl (k 0, 40, .inl (fun i => nI (va_up fir x9 0 i)))), (bse, .inl (k 0, 40, .inl (fun i => nI (sec i)))), (bkn, .inl (k 0, 40, .inl (fun i => nI (kno i)))), (bnm, .inl (k 0, 40, .inl (fun i => nI (va_up nam x9 (nam x9 ||| nam 0) i)))), (h0, .inr (5, [.ref ra, .ref bc, .int (nI nf), .int (nI nx), .int wr9])), (bc, .inr (4, [.ref bw, .ref bst, .ref bfi, .ref bse, .ref bkn, .ref bnm, .int (nI tk9), .int (nI sz9), .int (nI nd9)])), (bw, .inl (k 0, 200, .inl wd))] := S
  obtain ⟨hw60, hp8⟩ := hw6
  obtain rfl : r7 = 0 := hw60
  refine lv_istore (lv' := [(5, .int 0), (4, .int 0), (0, .ref h0), (1, .int (nI x9)), (2, .int (nI dp)), (3, .int 1)]) hx hb d_Re_parts_73 hl (by decide) rfl (fun ls hl => ?_)
  refine lv_aload_n hx hb d_Re_parts_75 rfl (lv_at hl 2 rfl) ?_
  refine r_get C K S 4 rfl rfl clOk_Re 1 (by decide) wf_Re_19 (v := .ref bc) rfl d_Re_parts_76 ?_
  refine r_getN C K S 5 rfl rfl clOk_Bo 3 (by decide) xf_Re_71 (v := .ref bse) rfl d_Re_parts_79 ?_
  refine lv_iload_n hx hb d_Re_parts_82 rfl (lv_at hl 3 rfl) ?_
  refine lv_iload hx hb d_Re_parts_83 (lv_at hl 0 rfl) ?_
  refine r_iast C K S 1 rfl (i := nI x9) (x := 0) (show vp_in (nI x9) _ from vp_in_nI (n := x9) (by omega) (by decide)) (f' := fun i => nI (va_up sec x9 0 i)) (ws' := [(bfi, .inl (k 0, 40, .inl (fun i => nI (va_up fir x9 0 i)))), (bse, .inl (k 0, 40, .inl (fun i => nI (va_up sec x9 0 i)))), (bkn, .inl (k 0, 40, .inl (fun i => nI (kno i)))), (bnm, .inl (k 0, 40, .inl (fun i => nI (va_up nam x9 (nam x9 ||| nam 0) i)))), (h0, .inr (5, [.ref ra, .ref bc, .int (nI nf), .int (nI nx), .int wr9])), (bc, .inr (4, [.ref bw, .ref bst, .ref bfi, .ref bse, .ref bkn, .ref bnm, .int (nI tk9), .int (nI sz9), .int (nI nd9)])), (bw, .inl (k 0, 200, .inl wd))]) (show upd _ (nI x9 : Int32).toNatClampNeg 0 = _ from upd_nI sec (j := x9) (by omega) 0) rfl d_Re_parts_85 (fun H locs S => ?_)
  refine lv_aload_n hx hb d_Re_parts_86 rfl (lv_at hl 2 rfl) ?_
  refine r_get C K S 4 rfl rfl clOk_Re 1 (by decide) wf_Re_19 (v := .ref bc) rfl d_Re_parts_87 ?_
  refine r_getN C K S 5 rfl rfl clOk_Bo 5 (by decide) xf_Re_68 (v := .ref bnm) rfl d_Re_parts_90 ?_
  refine lv_iload_n hx hb d_Re_parts_93 rfl (lv_at hl 3 rfl) ?_
  refine lv_dup2_11 hx hb d_Re_parts_94 rfl rfl ?_
  refine r_iald C K S 3 rfl (i := nI x9) (show vp_in (nI x9) _ from vp_in_nI (n := x9) (by omega) (by decide)) (v := nI (va_up nam x9 (nam x9 ||| nam 0) x9)) (by rw [nI_clamp (by omega)]) d_Re_parts_95 ?_
  refine lv_aload_n hx hb d_Re_parts_96 rfl (lv_at hl 2 rfl) ?_
  refine r_get C K S 4 rfl rfl clOk_Re 1 (by decide) wf_Re_19 (v := .ref bc) rfl d_Re_parts_97 ?_
  refine r_getN C K S 5 rfl rfl clOk_Bo 5 (by decide) xf_Re_68 (v := .ref bnm) rfl d_Re_parts_100 ?_
  refine lv_iload hx hb d_Re_parts_103 (lv_at hl 0 rfl) ?_
  refine r_iald C K S 3 rfl (i := 0) (by unfold vp_in; decide) (v := nI (va_up nam x9 (nam x9 ||| nam 0) 0)) (by rw [show (0 : Int32).toNatClampNeg = 0 from by decide]) d_Re_parts_105 ?_
  refine z_ior (v := nI ((va_up nam x9 (nam x9 ||| nam 0)) x9 ||| (va_up nam x9 (nam x9 ||| nam 0)) 0)) hx hb d_Re_parts_106 (nx_or _ _) ?_
  refine r_iast C K S 3 rfl (i := nI x9) (x := nI ((va_up nam x9 (nam x9 ||| nam 0)) x9 ||| (va_up nam x9 (nam x9 ||| nam 0)) 0)) (show vp_in (nI x9) _ from vp_in_nI (n := x9) (by omega) (by decide)) (f' := fun i => nI (va_up (va_up nam x9 (nam x9 ||| nam 0)) x9 ((va_up nam x9 (nam x9 ||| nam 0)) x9 ||| (va_up nam x9 (nam x9 ||| nam 0)) 0) i)) (ws' := [(bfi, .inl (k 0, 40, .inl (fun i => nI (va_up fir x9 0 i)))), (bse, .inl (k 0, 40, .inl (fun i => nI (va_up sec x9 0 i)))), (bkn, .inl (k 0, 40, .inl (fun i => nI (kno i)))), (bnm, .inl (k 0, 40, .inl (fun i => nI (va_up (va_up nam x9 (nam x9 ||| nam 0)) x9 ((va_up nam x9 (nam x9 ||| nam 0)) x9 ||| (va_up nam x9 (nam x9 ||| nam 0)) 0) i)))), (h0, .inr (5, [.ref ra, .ref bc, .int (nI nf), .int (nI nx), .int wr9])), (bc, .inr (4, [.ref bw, .ref bst, .ref bfi, .ref bse, .ref bkn, .ref bnm, .int (nI tk9), .int (nI sz9), .int (nI nd9)])), (bw, .inl (k 0, 200, .inl wd))]) (show upd _ (nI x9 : Int32).toNatClampNeg (nI ((va_up nam x9 (nam x9 ||| nam 0)) x9 ||| (va_up nam x9 (nam x9 ||| nam 0)) 0)) = _ from upd_nI (va_up nam x9 (nam x9 ||| nam 0)) (j := x9) (by omega) ((va_up nam x9 (nam x9 ||| nam 0)) x9 ||| (va_up nam x9 (nam x9 ||| nam 0)) 0)) rfl d_Re_parts_107 (fun H locs S => ?_)
  exact r_vret C K (va_up fir x9 0, va_up sec x9 0, (va_up (va_up nam x9 (nam x9 ||| nam 0)) x9 ((va_up nam x9 (nam x9 ||| nam 0)) x9 ||| (va_up nam x9 (nam x9 ||| nam 0)) 0))) trivial (S.sub [4, 5, 6, 0, 1, 2, 3] (by decide) rfl) d_Re_parts_108 (Nat.le_of_ble_eq_true rfl) (Nat.le_of_ble_eq_true rfl)
/-- expression with so much fuel -/
def ExC (fu : Nat) : Prop := ∀ (l : Launch) (G : va_G) (k : Nat → ClassId) (h0 : Nat) (s0 : Nat) (kn : Nat) (dp : Nat) (ra : Nat) (bc : Nat) (nf : Nat) (nx : Nat) (bw : Nat) (bst : Nat) (bfi : Nat) (bse : Nat) (bkn : Nat) (bnm : Nat) (tk9 : Nat) (sz9 : Nat) (nd9 : Nat) (o1 : Nat) (o2 : Nat) (o3 : Nat) (o1_0 : Nat) (o1_1 : Nat) (o1_2 : Nat) (o1_3 : Nat) (o1_4 : Nat) (o1_5 : Nat) (o2_0 : Nat) (o2_1 : Nat) (o2_2 : Nat) (o2_3 : Nat) (o2_4 : Nat) (o2_5 : Nat) (o3_0 : Nat) (o3_1 : Nat) (o3_2 : Nat) (o3_3 : Nat) (o3_4 : Nat) (o3_5 : Nat) (t1 : Nat) (t2 : Nat) (t3 : Nat) (os1 : Int32) (os2 : Int32) (os3 : Int32) (on1 : Int32) (on2 : Int32) (on3 : Int32) (wd : Nat → Int32) (sta : Nat → Nat) (fir : Nat → Nat) (sec : Nat → Nat) (kno : Nat → Nat) (nam : Nat → Nat) (bf : Nat → Option Nat) (tk : Nat → Nat) (En : Nat → Nat) (hdp : dp + fu = 17) (hnx : nx ≤ sz9) (hs2 : sz9 ≤ 200) (hnf : nf ≤ 4) (hnd : nd9 ≤ 40) (hkn : kn + fu ≤ 19) (hbf : bfO bf tk nf bc o1 o2 o3 tk9 t1 t2 t3) (htk : ∀ g, g < nf → tk g ≤ 3), CI l y_Re_expression c_Re_expression 5 .int { frames := 2 * fu + 3, cells := 0, slots := 0, locals := 49 * fu + 67 } [.ref h0, .int (nI kn), .int (nI dp)] G k s0 [(h0, .inr (5, [.ref ra, .ref bc, .int (nI nf), .int (nI nx), .int (-2)])), (bc, .inr (4, [.ref bw, .ref bst, .ref bfi, .ref bse, .ref bkn, .ref bnm, .int (nI tk9), .int (nI sz9), .int (nI nd9)])), (bw, .inl (k 0, 200, .inl wd)), (bst, .inl (k 0, 40, .inl (fun i => nI (sta i)))), (bfi, .inl (k 0, 40, .inl (fun i => nI (fir i)))), (bse, .inl (k 0, 40, .inl (fun i => nI (sec i)))), (bkn, .inl (k 0, 40, .inl (fun i => nI (kno i)))), (bnm, .inl (k 0, 40, .inl (fun i => nI (nam i)))), (ra, .inl (k 3, 4, .inr (.inr (.inr (.inr bf))))), (o1, .inr (4, [.ref o1_0, .ref o1_1, .ref o1_2, .ref o1_3, .ref o1_4, .ref o1_5, .int (nI t1), .int os1, .int on1])), (o2, .inr (4, [.ref o2_0, .ref o2_1, .ref o2_2, .ref o2_3, .ref o2_4, .ref o2_5, .int (nI t2), .int os2, .int on2])), (o3, .inr (4, [.ref o3_0, .ref o3_1, .ref o3_2, .ref o3_3, .ref o3_4, .ref o3_5, .int (nI t3), .int os3, .int on3]))] (fun (r : Int32) (u : XS) => r = nI u.2.2.2.2.2.2.2.2 ∧ exO wd tk (prs wd tk nf sz9 fu kn nx nd9 En) fu kn nx nd9 sta fir sec kno nam u) (fun u => [(h0, .inr (5, [.ref ra, .ref bc, .int (nI nf), .int (nI u.2.2.2.2.2.1), .int (wrI u.2.2.2.2.2.2.1)])), (bc, .inr (4, [.ref bw, .ref bst, .ref bfi, .ref bse, .ref bkn, .ref bnm, .int (nI tk9), .int (nI sz9), .int (nI u.2.2.2.2.2.2.2.1)])), (bw, .inl (k 0, 200, .inl wd)), (bst, .inl (k 0, 40, .inl (fun i => nI (u.1 i)))), (bfi, .inl (k 0, 40, .inl (fun i => nI (u.2.1 i)))), (bse, .inl (k 0, 40, .inl (fun i => nI (u.2.2.1 i)))), (bkn, .inl (k 0, 40, .inl (fun i => nI (u.2.2.2.1 i)))), (bnm, .inl (k 0, 40, .inl (fun i => nI (u.2.2.2.2.1 i)))), (ra, .inl (k 3, 4, .inr (.inr (.inr (.inr bf))))), (o1, .inr (4, [.ref o1_0, .ref o1_1, .ref o1_2, .ref o1_3, .ref o1_4, .ref o1_5, .int (nI t1), .int os1, .int on1])), (o2, .inr (4, [.ref o2_0, .ref o2_1, .ref o2_2, .ref o2_3, .ref o2_4, .ref o2_5, .int (nI t2), .int os2, .int on2])), (o3, .inr (4, [.ref o3_0, .ref o3_1, .ref o3_2, .ref o3_3, .ref o3_4, .ref o3_5, .int (nI t3), .int os3, .int on3]))]) 0 0
def PaC1 (fu : Nat) : Prop := ∀ (l : Launch) (G : va_G) (k : Nat → ClassId) (h0 : Nat) (s0 : Nat) (x9 : Nat) (dp : Nat) (ra : Nat) (bc : Nat) (nf : Nat) (nx : Nat) (bw : Nat) (bst : Nat) (bfi : Nat) (bse : Nat) (bkn : Nat) (bnm : Nat) (tk9 : Nat) (sz9 : Nat) (o1 : Nat) (o2 : Nat) (o3 : Nat) (o1_0 : Nat) (o1_1 : Nat) (o1_2 : Nat) (o1_3 : Nat) (o1_4 : Nat) (o1_5 : Nat) (o2_0 : Nat) (o2_1 : Nat) (o2_2 : Nat) (o2_3 : Nat) (o2_4 : Nat) (o2_5 : Nat) (o3_0 : Nat) (o3_1 : Nat) (o3_2 : Nat) (o3_3 : Nat) (o3_4 : Nat) (o3_5 : Nat) (t1 : Nat) (t2 : Nat) (t3 : Nat) (os1 : Int32) (os2 : Int32) (os3 : Int32) (on1 : Int32) (on2 : Int32) (on3 : Int32) (wd : Nat → Int32) (sta : Nat → Nat) (fir : Nat → Nat) (sec : Nat → Nat) (kno : Nat → Nat) (nam : Nat → Nat) (bf : Nat → Option Nat) (tk : Nat → Nat) (En : Nat → Nat) (hx9 : x9 < 40) (hdp : dp + 1 + fu = 17) (hnx : nx ≤ sz9) (hs2 : sz9 ≤ 200) (hnf : nf ≤ 4) (hbf : bfO bf tk nf bc o1 o2 o3 tk9 t1 t2 t3) (htk : ∀ g, g < nf → tk g ≤ 3) (hkn : kno x9 + fu ≤ 19), CV l y_Re_parts c_Re_parts 6 { frames := 2 * fu + 4, cells := 0, slots := 0, locals := 49 * fu + 91 } [.ref h0, .int (nI x9), .int (nI dp), .int 0] G k s0 [(h0, .inr (5, [.ref ra, .ref bc, .int (nI nf), .int (nI nx), .int (-2)])), (bc, .inr (4, [.ref bw, .ref bst, .ref bfi, .ref bse, .ref bkn, .ref bnm, .int (nI tk9), .int (nI sz9), .int (nI (x9 + 1))])), (bw, .inl (k 0, 200, .inl wd)), (bst, .inl (k 0, 40, .inl (fun i => nI (sta i)))), (bfi, .inl (k 0, 40, .inl (fun i => nI (fir i)))), (bse, .inl (k 0, 40, .inl (fun i => nI (sec i)))), (bkn, .inl (k 0, 40, .inl (fun i => nI (kno i)))), (bnm, .inl (k 0, 40, .inl (fun i => nI (nam i)))), (ra, .inl (k 3, 4, .inr (.inr (.inr (.inr bf))))), (o1, .inr (4, [.ref o1_0, .ref o1_1, .ref o1_2, .ref o1_3, .ref o1_4, .ref o1_5, .int (nI t1), .int os1, .int on1])), (o2, .inr (4, [.ref o2_0, .ref o2_1, .ref o2_2, .ref o2_3, .ref o2_4, .ref o2_5, .int (nI t2), .int os2, .int on2])), (o3, .inr (4, [.ref o3_0, .ref o3_1, .ref o3_2, .ref o3_3, .ref o3_4, .ref o3_5, .int (nI t3), .int os3, .int on3]))] (fun (u : XS) => pa1 wd tk nf sz9 En fu nx x9 sta fir sec kno nam u) (fun u => [(h0, .inr (5, [.ref ra, .ref bc, .int (nI nf), .int (nI u.2.2.2.2.2.1), .int (wrI u.2.2.2.2.2.2.1)])), (bc, .inr (4, [.ref bw, .ref bst, .ref bfi, .ref bse, .ref bkn, .ref bnm, .int (nI tk9), .int (nI sz9), .int (nI u.2.2.2.2.2.2.2.1)])), (bw, .inl (k 0, 200, .inl wd)), (bst, .inl (k 0, 40, .inl (fun i => nI (u.1 i)))), (bfi, .inl (k 0, 40, .inl (fun i => nI (u.2.1 i)))), (bse, .inl (k 0, 40, .inl (fun i => nI (u.2.2.1 i)))), (bkn, .inl (k 0, 40, .inl (fun i => nI (u.2.2.2.1 i)))), (bnm, .inl (k 0, 40, .inl (fun i => nI (u.2.2.2.2.1 i)))), (ra, .inl (k 3, 4, .inr (.inr (.inr (.inr bf))))), (o1, .inr (4, [.ref o1_0, .ref o1_1, .ref o1_2, .ref o1_3, .ref o1_4, .ref o1_5, .int (nI t1), .int os1, .int on1])), (o2, .inr (4, [.ref o2_0, .ref o2_1, .ref o2_2, .ref o2_3, .ref o2_4, .ref o2_5, .int (nI t2), .int os2, .int on2])), (o3, .inr (4, [.ref o3_0, .ref o3_1, .ref o3_2, .ref o3_3, .ref o3_4, .ref o3_5, .int (nI t3), .int os3, .int on3]))]) 0 0
set_option maxRecDepth 100000 in
set_option maxHeartbeats 16000000 in
/-- parts -/
theorem g_Re_parts_1 {fu : Nat} (hE : ExC fu) (l : Launch) (G : va_G) (k : Nat → ClassId) (h0 : Nat) (s0 : Nat) (x9 : Nat) (dp : Nat) (ra : Nat) (bc : Nat) (nf : Nat) (nx : Nat) (bw : Nat) (bst : Nat) (bfi : Nat) (bse : Nat) (bkn : Nat) (bnm : Nat) (tk9 : Nat) (sz9 : Nat) (o1 : Nat) (o2 : Nat) (o3 : Nat) (o1_0 : Nat) (o1_1 : Nat) (o1_2 : Nat) (o1_3 : Nat) (o1_4 : Nat) (o1_5 : Nat) (o2_0 : Nat) (o2_1 : Nat) (o2_2 : Nat) (o2_3 : Nat) (o2_4 : Nat) (o2_5 : Nat) (o3_0 : Nat) (o3_1 : Nat) (o3_2 : Nat) (o3_3 : Nat) (o3_4 : Nat) (o3_5 : Nat) (t1 : Nat) (t2 : Nat) (t3 : Nat) (os1 : Int32) (os2 : Int32) (os3 : Int32) (on1 : Int32) (on2 : Int32) (on3 : Int32) (wd : Nat → Int32) (sta : Nat → Nat) (fir : Nat → Nat) (sec : Nat → Nat) (kno : Nat → Nat) (nam : Nat → Nat) (bf : Nat → Option Nat) (tk : Nat → Nat) (En : Nat → Nat) (hx9 : x9 < 40) (hdp : dp + 1 + fu = 17) (hnx : nx ≤ sz9) (hs2 : sz9 ≤ 200) (hnf : nf ≤ 4) (hbf : bfO bf tk nf bc o1 o2 o3 tk9 t1 t2 t3) (htk : ∀ g, g < nf → tk g ≤ 3) (hkn : kno x9 + fu ≤ 19) : CV l y_Re_parts c_Re_parts 6 { frames := 2 * fu + 4, cells := 0, slots := 0, locals := 49 * fu + 91 } [.ref h0, .int (nI x9), .int (nI dp), .int 0] G k s0 [(h0, .inr (5, [.ref ra, .ref bc, .int (nI nf), .int (nI nx), .int (-2)])), (bc, .inr (4, [.ref bw, .ref bst, .ref bfi, .ref bse, .ref bkn, .ref bnm, .int (nI tk9), .int (nI sz9), .int (nI (x9 + 1))])), (bw, .inl (k 0, 200, .inl wd)), (bst, .inl (k 0, 40, .inl (fun i => nI (sta i)))), (bfi, .inl (k 0, 40, .inl (fun i => nI (fir i)))), (bse, .inl (k 0, 40, .inl (fun i => nI (sec i)))), (bkn, .inl (k 0, 40, .inl (fun i => nI (kno i)))), (bnm, .inl (k 0, 40, .inl (fun i => nI (nam i)))), (ra, .inl (k 3, 4, .inr (.inr (.inr (.inr bf))))), (o1, .inr (4, [.ref o1_0, .ref o1_1, .ref o1_2, .ref o1_3, .ref o1_4, .ref o1_5, .int (nI t1), .int os1, .int on1])), (o2, .inr (4, [.ref o2_0, .ref o2_1, .ref o2_2, .ref o2_3, .ref o2_4, .ref o2_5, .int (nI t2), .int os2, .int on2])), (o3, .inr (4, [.ref o3_0, .ref o3_1, .ref o3_2, .ref o3_3, .ref o3_4, .ref o3_5, .int (nI t3), .int os3, .int on3]))] (fun (u : XS) => pa1 wd tk nf sz9 En fu nx x9 sta fir sec kno nam u) (fun u => [(h0, .inr (5, [.ref ra, .ref bc, .int (nI nf), .int (nI u.2.2.2.2.2.1), .int (wrI u.2.2.2.2.2.2.1)])), (bc, .inr (4, [.ref bw, .ref bst, .ref bfi, .ref bse, .ref bkn, .ref bnm, .int (nI tk9), .int (nI sz9), .int (nI u.2.2.2.2.2.2.2.1)])), (bw, .inl (k 0, 200, .inl wd)), (bst, .inl (k 0, 40, .inl (fun i => nI (u.1 i)))), (bfi, .inl (k 0, 40, .inl (fun i => nI (u.2.1 i)))), (bse, .inl (k 0, 40, .inl (fun i => nI (u.2.2.1 i)))), (bkn, .inl (k 0, 40, .inl (fun i => nI (u.2.2.2.1 i)))), (bnm, .inl (k 0, 40, .inl (fun i => nI (u.2.2.2.2.1 i)))), (ra, .inl (k 3, 4, .inr (.inr (.inr (.inr bf))))), (o1, .inr (4, [.ref o1_0, .ref o1_1, .ref o1_2, .ref o1_3, .ref o1_4, .ref o1_5, .int (nI t1), .int os1, .int on1])), (o2, .inr (4, [.ref o2_0, .ref o2_1, .ref o2_2, .ref o2_3, .ref o2_4, .ref o2_5, .int (nI t2), .int os2, .int on2])), (o3, .inr (4, [.ref o3_0, .ref o3_1, .ref o3_2, .ref o3_3, .ref o3_4, .ref o3_5, .int (nI t3), .int os3, .int on3]))]) 0 0 := by
  refine met_start (by decide) (Nat.le_of_ble_eq_true rfl) ?_
  intro p e s m below meth c C K hA hsz S ls hl
  generalize va_A [(h0, .inr (5, [.ref ra, .ref bc, .int (nI nf), .int (nI nx), .int (-2)])), (bc, .inr (4, [.ref bw, .ref bst, .ref bfi, .ref bse, .ref bkn, .ref bnm, .int (nI tk9), .int (nI sz9), .int (nI (x9 + 1))])), (bw, .inl (k 0, 200, .inl wd)), (bst, .inl (k 0, 40, .inl (fun i => nI (sta i)))), (bfi, .inl (k 0, 40, .inl (fun i => nI (fir i)))), (bse, .inl (k 0, 40, .inl (fun i => nI (sec i)))), (bkn, .inl (k 0, 40, .inl (fun i => nI (kno i)))), (bnm, .inl (k 0, 40, .inl (fun i => nI (nam i)))), (ra, .inl (k 3, 4, .inr (.inr (.inr (.inr bf))))), (o1, .inr (4, [.ref o1_0, .ref o1_1, .ref o1_2, .ref o1_3, .ref o1_4, .ref o1_5, .int (nI t1), .int os1, .int on1])), (o2, .inr (4, [.ref o2_0, .ref o2_1, .ref o2_2, .ref o2_3, .ref o2_4, .ref o2_5, .int (nI t2), .int os2, .int on2])), (o3, .inr (4, [.ref o3_0, .ref o3_1, .ref o3_2, .ref o3_3, .ref o3_4, .ref o3_5, .int (nI t3), .int os3, .int on3]))] s0 = A at hA S ⊢
  have hx := C.1
  have hb := C.2.1
  have hl : lv_has ls 6 [(0, .ref h0), (1, .int (nI x9)), (2, .int (nI dp)), (3, .int 0)] := hl
  refine lv_aload_n hx hb d_Re_parts_0 rfl (lv_at hl 0 rfl) ?_
  refine lv_aload_n hx hb d_Re_parts_1 rfl (lv_at hl 0 rfl) ?_
  refine r_get C K S 0 rfl rfl clOk_Re 1 (by decide) wf_Re_19 (v := .ref bc) rfl d_Re_parts_2 ?_
  refine r_getN C K S 1 rfl rfl clOk_Bo 4 (by decide) xf_Re_61 (v := .ref bkn) rfl d_Re_parts_5 ?_
  refine lv_iload_n hx hb d_Re_parts_8 rfl (lv_at hl 1 rfl) ?_
  refine r_iald C K S 6 rfl (i := nI x9) (show vp_in (nI x9) _ from vp_in_nI (n := x9) (by omega) (by decide)) (v := nI (kno x9)) (by rw [nI_clamp (by omega)]) d_Re_parts_9 ?_
  refine lv_iload_n hx hb d_Re_parts_10 rfl (lv_at hl 2 rfl) ?_
  refine lv_iconst (v := 1) hx hb d_Re_parts_11 (by decide) ?_
  refine z_iadd (x := nI dp) (y := 1) (v := nI (dp + 1)) hx hb d_Re_parts_12 (nI_add dp 1) ?_
  refine r_backi (wi := [(h0, .inr (5, [.ref ra, .ref bc, .int (nI nf), .int (nI nx), .int (-2)])), (bc, .inr (4, [.ref bw, .ref bst, .ref bfi, .ref bse, .ref bkn, .ref bnm, .int (nI tk9), .int (nI sz9), .int (nI (x9 + 1))])), (bw, .inl (k 0, 200, .inl wd)), (bst, .inl (k 0, 40, .inl (fun i => nI (sta i)))), (bfi, .inl (k 0, 40, .inl (fun i => nI (fir i)))), (bse, .inl (k 0, 40, .inl (fun i => nI (sec i)))), (bkn, .inl (k 0, 40, .inl (fun i => nI (kno i)))), (bnm, .inl (k 0, 40, .inl (fun i => nI (nam i)))), (ra, .inl (k 3, 4, .inr (.inr (.inr (.inr bf))))), (o1, .inr (4, [.ref o1_0, .ref o1_1, .ref o1_2, .ref o1_3, .ref o1_4, .ref o1_5, .int (nI t1), .int os1, .int on1])), (o2, .inr (4, [.ref o2_0, .ref o2_1, .ref o2_2, .ref o2_3, .ref o2_4, .ref o2_5, .int (nI t2), .int os2, .int on2])), (o3, .inr (4, [.ref o3_0, .ref o3_1, .ref o3_2, .ref o3_3, .ref o3_4, .ref o3_5, .int (nI t3), .int os3, .int on3]))]) (wr := []) S hA [0, 1, 2, 3, 4, 5, 6, 7, 8, 9, 10, 11] [] rfl rfl (by decide) (by decide) (va_runV (As := [.int (nI (kno x9)), .int (nI (dp + 1))]) (rest := []) ⟨hx, hb, C.2.2.1, C.2.2.2.1, C.2.2.2.2.1⟩ (hE l G k h0 _ (kno x9) (dp + 1) ra bc nf nx bw bst bfi bse bkn bnm tk9 sz9 (x9 + 1) o1 o2 o3 o1_0 o1_1 o1_2 o1_3 o1_4 o1_5 o2_0 o2_1 o2_2 o2_3 o2_4 o2_5 o3_0 o3_1 o3_2 o3_3 o3_4 o3_5 t1 t2 t3 os1 os2 os3 on1 on2 on3 wd sta fir sec kno nam bf tk En (by omega) hnx hs2 hnf (by omega) (by omega) hbf htk) (k_virt (n := 2) C wc_Re_expression rfl rfl wz_Re wm_Re_37 wn_Re_expression ws_Re_expression (by decide +kernel) ⟨(by dsimp only; omega), (by dsimp only; omega)⟩) (pr_nowV K S [0, 1, 2, 3, 4, 5, 6, 7, 8, 9, 10, 11] (by decide) rfl 0 rfl rfl) rfl rfl hl.1 rfl (lv_room (Nat.le_of_ble_eq_true rfl)) d_Re_parts_13 ⟨(Nat.le_of_ble_eq_true rfl), (Nat.le_of_ble_eq_true rfl)⟩) (fun r3 u1 H locs hw2 S => ?_)
  have S : Sw G A s.heap _ _ [(h0, .inr (5, [.ref ra, .ref bc, .int (nI nf), .int (nI u1.2.2.2.2.2.1), .int (wrI u1.2.2.2.2.2.2.1)])), (bc, .inr (4, [.ref bw, .ref bst, .ref bfi, .ref bse, .ref bkn, .ref bnm, .int (nI tk9), .int (nI sz9), .int (nI u1.2.2.2.2.2.2.2.1)])), (bw, .inl (k 0, 200, .inl wd)), (bst, .inl (k 0, 40, .inl (fun i => nI (u1.1 i)))), (bfi, .inl (k 0, 40, .inl (fun i => nI (u1.2.1 i)))), (bse, .inl (k 0, 40, .inl (fun i => nI (u1.2.2.1 i)))), (bkn, .inl (k 0, 40, .inl (fun i => nI (u1.2.2.2.1 i)))), (bnm, .inl (k 0, 40, .inl (fun i => nI (u1.2.2.2.2.1 i)))), (ra, .inl (k 3, 4, .inr (.inr (.inr (.inr bf))))), (o1, .inr (4, [.ref o1_0, .ref o1_1, .ref o1_2, .ref o1_3, .ref o1_4, .ref o1_5, .int (nI t1), .int os1, .int on1])), (o2, .inr (4, [.ref o2_0, .ref o2_1, .ref o2_2, .ref o2_3, .ref o2_4, .ref o2_5, .int (nI t2), .int os2, .int on2])), (o3, .inr (4, [.ref o3_0, .ref o3_1, .ref o3_2, .ref o3_3, .ref o3_4, .ref o3_5, .int (nI t3), .int os3, .int on3]))] := S
  obtain ⟨hw20, hp1⟩ := hw2
  obtain rfl : r3 = nI u1.2.2.2.2.2.2.2.2 := hw20
  obtain ⟨sta1, fir1, sec1, kno1, nam1, nx1, b1, nd1, x1⟩ := u1
  have S : Sw G A s.heap H locs [(h0, .inr (5, [.ref ra, .ref bc, .int (nI nf), .int (nI nx1), .int (wrI b1)])), (bc, .inr (4, [.ref bw, .ref bst, .ref bfi, .ref bse, .ref bkn, .ref bnm, .int (nI tk9), .int (nI sz9), .int (nI nd1)])), (bw, .inl (k 0, 200, .inl wd)), (bst, .inl (k 0, 40, .inl (fun i => nI (sta1 i)))), (bfi, .inl (k 0, 40, .inl (fun i => nI (fir1 i)))), (bse, .inl (k 0, 40, .inl (fun i => nI (sec1 i)))), (bkn, .inl (k 0, 40, .inl (fun i => nI (kno1 i)))), (bnm, .inl (k 0, 40, .inl (fun i => nI (nam1 i)))), (ra, .inl (k 3, 4, .inr (.inr (.inr (.inr bf))))), (o1, .inr (4, [.ref o1_0, .ref o1_1, .ref o1_2, .ref o1_3, .ref o1_4, .ref o1_5, .int (nI t1), .int os1, .int on1])), (o2, .inr (4, [.ref o2_0, .ref o2_1, .ref o2_2, .ref o2_3, .ref o2_4, .ref o2_5, .int (nI t2), .int os2, .int on2])), (o3, .inr (4, [.ref o3_0, .ref o3_1, .ref o3_2, .ref o3_3, .ref o3_4, .ref o3_5, .int (nI t3), .int os3, .int on3]))] := S
  have hx1 : x1 < 40 := hp1.1
  refine lv_istore (lv' := [(4, .int (nI x1)), (0, .ref h0), (1, .int (nI x9)), (2, .int (nI dp)), (3, .int 0)]) hx hb d_Re_parts_16 hl (by decide) rfl (fun ls hl => ?_)
  refine lv_aload_n hx hb d_Re_parts_18 rfl (lv_at hl 1 rfl) ?_
  refine r_get C K S 0 rfl rfl clOk_Re 1 (by decide) wf_Re_19 (v := .ref bc) rfl d_Re_parts_19 ?_
  refine r_getN C K S 1 rfl rfl clOk_Bo 2 (by decide) xf_Re_65 (v := .ref bfi) rfl d_Re_parts_22 ?_
  refine lv_iload_n hx hb d_Re_parts_25 rfl (lv_at hl 2 rfl) ?_
  refine lv_iload hx hb d_Re_parts_26 (lv_at hl 0 rfl) ?_
  refine r_iast C K S 4 rfl (i := nI x9) (x := nI x1) (show vp_in (nI x9) _ from vp_in_nI (n := x9) (by omega) (by decide)) (f' := fun i => nI (va_up fir1 x9 x1 i)) (ws' := [(h0, .inr (5, [.ref ra, .ref bc, .int (nI nf), .int (nI nx1), .int (wrI b1)])), (bc, .inr (4, [.ref bw, .ref bst, .ref bfi, .ref bse, .ref bkn, .ref bnm, .int (nI tk9), .int (nI sz9), .int (nI nd1)])), (bw, .inl (k 0, 200, .inl wd)), (bst, .inl (k 0, 40, .inl (fun i => nI (sta1 i)))), (bfi, .inl (k 0, 40, .inl (fun i => nI (va_up fir1 x9 x1 i)))), (bse, .inl (k 0, 40, .inl (fun i => nI (sec1 i)))), (bkn, .inl (k 0, 40, .inl (fun i => nI (kno1 i)))), (bnm, .inl (k 0, 40, .inl (fun i => nI (nam1 i)))), (ra, .inl (k 3, 4, .inr (.inr (.inr (.inr bf))))), (o1, .inr (4, [.ref o1_0, .ref o1_1, .ref o1_2, .ref o1_3, .ref o1_4, .ref o1_5, .int (nI t1), .int os1, .int on1])), (o2, .inr (4, [.ref o2_0, .ref o2_1, .ref o2_2, .ref o2_3, .ref o2_4, .ref o2_5, .int (nI t2), .int os2, .int on2])), (o3, .inr (4, [.ref o3_0, .ref o3_1, .ref o3_2, .ref o3_3, .ref o3_4, .ref o3_5, .int (nI t3), .int os3, .int on3]))]) (show upd _ (nI x9 : Int32).toNatClampNeg (nI x1) = _ from upd_nI fir1 (j := x9) (by omega) x1) rfl d_Re_parts_28 (fun H locs S => ?_)
  refine lv_aload_n hx hb d_Re_parts_29 rfl (lv_at hl 1 rfl) ?_
  refine r_get C K S 0 rfl rfl clOk_Re 1 (by decide) wf_Re_19 (v := .ref bc) rfl d_Re_parts_30 ?_
  refine r_getN C K S 1 rfl rfl clOk_Bo 5 (by decide) xf_Re_68 (v := .ref bnm) rfl d_Re_parts_33 ?_
  refine lv_iload_n hx hb d_Re_parts_36 rfl (lv_at hl 2 rfl) ?_
  refine lv_dup2_11 hx hb d_Re_parts_37 rfl rfl ?_
  refine r_iald C K S 7 rfl (i := nI x9) (show vp_in (nI x9) _ from vp_in_nI (n := x9) (by omega) (by decide)) (v := nI (nam1 x9)) (by rw [nI_clamp (by omega)]) d_Re_parts_38 ?_
  refine lv_aload_n hx hb d_Re_parts_39 rfl (lv_at hl 1 rfl) ?_
  refine r_get C K S 0 rfl rfl clOk_Re 1 (by decide) wf_Re_19 (v := .ref bc) rfl d_Re_parts_40 ?_
  refine r_getN C K S 1 rfl rfl clOk_Bo 5 (by decide) xf_Re_68 (v := .ref bnm) rfl d_Re_parts_43 ?_
  refine lv_iload hx hb d_Re_parts_46 (lv_at hl 0 rfl) ?_
  refine r_iald C K S 7 rfl (i := nI x1) (show vp_in (nI x1) _ from vp_in_nI (n := x1) (by omega) (by decide)) (v := nI (nam1 x1)) (by rw [nI_clamp (by omega)]) d_Re_parts_48 ?_
  refine z_ior (v := nI (nam1 x9 ||| nam1 x1)) hx hb d_Re_parts_49 (nx_or _ _) ?_
  refine r_iast C K S 7 rfl (i := nI x9) (x := nI (nam1 x9 ||| nam1 x1)) (show vp_in (nI x9) _ from vp_in_nI (n := x9) (by omega) (by decide)) (f' := fun i => nI (va_up nam1 x9 (nam1 x9 ||| nam1 x1) i)) (ws' := [(h0, .inr (5, [.ref ra, .ref bc, .int (nI nf), .int (nI nx1), .int (wrI b1)])), (bc, .inr (4, [.ref bw, .ref bst, .ref bfi, .ref bse, .ref bkn, .ref bnm, .int (nI tk9), .int (nI sz9), .int (nI nd1)])), (bw, .inl (k 0, 200, .inl wd)), (bst, .inl (k 0, 40, .inl (fun i => nI (sta1 i)))), (bfi, .inl (k 0, 40, .inl (fun i => nI (va_up fir1 x9 x1 i)))), (bse, .inl (k 0, 40, .inl (fun i => nI (sec1 i)))), (bkn, .inl (k 0, 40, .inl (fun i => nI (kno1 i)))), (bnm, .inl (k 0, 40, .inl (fun i => nI (va_up nam1 x9 (nam1 x9 ||| nam1 x1) i)))), (ra, .inl (k 3, 4, .inr (.inr (.inr (.inr bf))))), (o1, .inr (4, [.ref o1_0, .ref o1_1, .ref o1_2, .ref o1_3, .ref o1_4, .ref o1_5, .int (nI t1), .int os1, .int on1])), (o2, .inr (4, [.ref o2_0, .ref o2_1, .ref o2_2, .ref o2_3, .ref o2_4, .ref o2_5, .int (nI t2), .int os2, .int on2])), (o3, .inr (4, [.ref o3_0, .ref o3_1, .ref o3_2, .ref o3_3, .ref o3_4, .ref o3_5, .int (nI t3), .int os3, .int on3]))]) (show upd _ (nI x9 : Int32).toNatClampNeg (nI (nam1 x9 ||| nam1 x1)) = _ from upd_nI nam1 (j := x9) (by omega) (nam1 x9 ||| nam1 x1)) rfl d_Re_parts_50 (fun H locs S => ?_)
  refine lv_iload_n hx hb d_Re_parts_51 rfl (lv_at hl 4 rfl) ?_
  refine lv_if_eq (tgt := 108) hx hb d_Re_parts_52 (by decide) (fun _ => ?_) (fun hq => absurd (by decide) hq)
  exact r_vret C K (sta1, va_up fir1 x9 x1, sec1, kno1, va_up nam1 x9 (nam1 x9 ||| nam1 x1), nx1, b1, nd1, 0) (pa1_of hp1) (S.sub [0, 1, 2, 3, 4, 5, 6, 7, 8, 9, 10, 11] (by decide) rfl) d_Re_parts_108 (Nat.le_of_ble_eq_true rfl) (Nat.le_of_ble_eq_true rfl)
def PaC2 (fu : Nat) : Prop := ∀ (l : Launch) (G : va_G) (k : Nat → ClassId) (h0 : Nat) (s0 : Nat) (x9 : Nat) (dp : Nat) (ra : Nat) (bc : Nat) (nf : Nat) (nx : Nat) (bw : Nat) (bst : Nat) (bfi : Nat) (bse : Nat) (bkn : Nat) (bnm : Nat) (tk9 : Nat) (sz9 : Nat) (o1 : Nat) (o2 : Nat) (o3 : Nat) (o1_0 : Nat) (o1_1 : Nat) (o1_2 : Nat) (o1_3 : Nat) (o1_4 : Nat) (o1_5 : Nat) (o2_0 : Nat) (o2_1 : Nat) (o2_2 : Nat) (o2_3 : Nat) (o2_4 : Nat) (o2_5 : Nat) (o3_0 : Nat) (o3_1 : Nat) (o3_2 : Nat) (o3_3 : Nat) (o3_4 : Nat) (o3_5 : Nat) (t1 : Nat) (t2 : Nat) (t3 : Nat) (os1 : Int32) (os2 : Int32) (os3 : Int32) (on1 : Int32) (on2 : Int32) (on3 : Int32) (wd : Nat → Int32) (sta : Nat → Nat) (fir : Nat → Nat) (sec : Nat → Nat) (kno : Nat → Nat) (nam : Nat → Nat) (bf : Nat → Option Nat) (tk : Nat → Nat) (En : Nat → Nat) (hx9 : x9 < 40) (hdp : dp + 1 + fu = 17) (hnx : nx ≤ sz9) (hs2 : sz9 ≤ 200) (hnf : nf ≤ 4) (hbf : bfO bf tk nf bc o1 o2 o3 tk9 t1 t2 t3) (htk : ∀ g, g < nf → tk g ≤ 3) (hkn : kno x9 + 1 + fu ≤ 19), CV l y_Re_parts c_Re_parts 6 { frames := 2 * fu + 4, cells := 0, slots := 0, locals := 49 * fu + 91 } [.ref h0, .int (nI x9), .int (nI dp), .int 1] G k s0 [(h0, .inr (5, [.ref ra, .ref bc, .int (nI nf), .int (nI nx), .int (-2)])), (bc, .inr (4, [.ref bw, .ref bst, .ref bfi, .ref bse, .ref bkn, .ref bnm, .int (nI tk9), .int (nI sz9), .int (nI (x9 + 1))])), (bw, .inl (k 0, 200, .inl wd)), (bst, .inl (k 0, 40, .inl (fun i => nI (sta i)))), (bfi, .inl (k 0, 40, .inl (fun i => nI (fir i)))), (bse, .inl (k 0, 40, .inl (fun i => nI (sec i)))), (bkn, .inl (k 0, 40, .inl (fun i => nI (kno i)))), (bnm, .inl (k 0, 40, .inl (fun i => nI (nam i)))), (ra, .inl (k 3, 4, .inr (.inr (.inr (.inr bf))))), (o1, .inr (4, [.ref o1_0, .ref o1_1, .ref o1_2, .ref o1_3, .ref o1_4, .ref o1_5, .int (nI t1), .int os1, .int on1])), (o2, .inr (4, [.ref o2_0, .ref o2_1, .ref o2_2, .ref o2_3, .ref o2_4, .ref o2_5, .int (nI t2), .int os2, .int on2])), (o3, .inr (4, [.ref o3_0, .ref o3_1, .ref o3_2, .ref o3_3, .ref o3_4, .ref o3_5, .int (nI t3), .int os3, .int on3]))] (fun (u : XS) => pa2 wd tk nf sz9 En fu nx x9 sta fir sec kno nam u) (fun u => [(h0, .inr (5, [.ref ra, .ref bc, .int (nI nf), .int (nI u.2.2.2.2.2.1), .int (wrI u.2.2.2.2.2.2.1)])), (bc, .inr (4, [.ref bw, .ref bst, .ref bfi, .ref bse, .ref bkn, .ref bnm, .int (nI tk9), .int (nI sz9), .int (nI u.2.2.2.2.2.2.2.1)])), (bw, .inl (k 0, 200, .inl wd)), (bst, .inl (k 0, 40, .inl (fun i => nI (u.1 i)))), (bfi, .inl (k 0, 40, .inl (fun i => nI (u.2.1 i)))), (bse, .inl (k 0, 40, .inl (fun i => nI (u.2.2.1 i)))), (bkn, .inl (k 0, 40, .inl (fun i => nI (u.2.2.2.1 i)))), (bnm, .inl (k 0, 40, .inl (fun i => nI (u.2.2.2.2.1 i)))), (ra, .inl (k 3, 4, .inr (.inr (.inr (.inr bf))))), (o1, .inr (4, [.ref o1_0, .ref o1_1, .ref o1_2, .ref o1_3, .ref o1_4, .ref o1_5, .int (nI t1), .int os1, .int on1])), (o2, .inr (4, [.ref o2_0, .ref o2_1, .ref o2_2, .ref o2_3, .ref o2_4, .ref o2_5, .int (nI t2), .int os2, .int on2])), (o3, .inr (4, [.ref o3_0, .ref o3_1, .ref o3_2, .ref o3_3, .ref o3_4, .ref o3_5, .int (nI t3), .int os3, .int on3]))]) 0 0
set_option maxRecDepth 100000 in
set_option maxHeartbeats 16000000 in
/-- parts -/
theorem g_Re_parts_2 {fu : Nat} (hE : ExC fu) (l : Launch) (G : va_G) (k : Nat → ClassId) (h0 : Nat) (s0 : Nat) (x9 : Nat) (dp : Nat) (ra : Nat) (bc : Nat) (nf : Nat) (nx : Nat) (bw : Nat) (bst : Nat) (bfi : Nat) (bse : Nat) (bkn : Nat) (bnm : Nat) (tk9 : Nat) (sz9 : Nat) (o1 : Nat) (o2 : Nat) (o3 : Nat) (o1_0 : Nat) (o1_1 : Nat) (o1_2 : Nat) (o1_3 : Nat) (o1_4 : Nat) (o1_5 : Nat) (o2_0 : Nat) (o2_1 : Nat) (o2_2 : Nat) (o2_3 : Nat) (o2_4 : Nat) (o2_5 : Nat) (o3_0 : Nat) (o3_1 : Nat) (o3_2 : Nat) (o3_3 : Nat) (o3_4 : Nat) (o3_5 : Nat) (t1 : Nat) (t2 : Nat) (t3 : Nat) (os1 : Int32) (os2 : Int32) (os3 : Int32) (on1 : Int32) (on2 : Int32) (on3 : Int32) (wd : Nat → Int32) (sta : Nat → Nat) (fir : Nat → Nat) (sec : Nat → Nat) (kno : Nat → Nat) (nam : Nat → Nat) (bf : Nat → Option Nat) (tk : Nat → Nat) (En : Nat → Nat) (hx9 : x9 < 40) (hdp : dp + 1 + fu = 17) (hnx : nx ≤ sz9) (hs2 : sz9 ≤ 200) (hnf : nf ≤ 4) (hbf : bfO bf tk nf bc o1 o2 o3 tk9 t1 t2 t3) (htk : ∀ g, g < nf → tk g ≤ 3) (hkn : kno x9 + 1 + fu ≤ 19) : CV l y_Re_parts c_Re_parts 6 { frames := 2 * fu + 4, cells := 0, slots := 0, locals := 49 * fu + 91 } [.ref h0, .int (nI x9), .int (nI dp), .int 1] G k s0 [(h0, .inr (5, [.ref ra, .ref bc, .int (nI nf), .int (nI nx), .int (-2)])), (bc, .inr (4, [.ref bw, .ref bst, .ref bfi, .ref bse, .ref bkn, .ref bnm, .int (nI tk9), .int (nI sz9), .int (nI (x9 + 1))])), (bw, .inl (k 0, 200, .inl wd)), (bst, .inl (k 0, 40, .inl (fun i => nI (sta i)))), (bfi, .inl (k 0, 40, .inl (fun i => nI (fir i)))), (bse, .inl (k 0, 40, .inl (fun i => nI (sec i)))), (bkn, .inl (k 0, 40, .inl (fun i => nI (kno i)))), (bnm, .inl (k 0, 40, .inl (fun i => nI (nam i)))), (ra, .inl (k 3, 4, .inr (.inr (.inr (.inr bf))))), (o1, .inr (4, [.ref o1_0, .ref o1_1, .ref o1_2, .ref o1_3, .ref o1_4, .ref o1_5, .int (nI t1), .int os1, .int on1])), (o2, .inr (4, [.ref o2_0, .ref o2_1, .ref o2_2, .ref o2_3, .ref o2_4, .ref o2_5, .int (nI t2), .int os2, .int on2])), (o3, .inr (4, [.ref o3_0, .ref o3_1, .ref o3_2, .ref o3_3, .ref o3_4, .ref o3_5, .int (nI t3), .int os3, .int on3]))] (fun (u : XS) => pa2 wd tk nf sz9 En fu nx x9 sta fir sec kno nam u) (fun u => [(h0, .inr (5, [.ref ra, .ref bc, .int (nI nf), .int (nI u.2.2.2.2.2.1), .int (wrI u.2.2.2.2.2.2.1)])), (bc, .inr (4, [.ref bw, .ref bst, .ref bfi, .ref bse, .ref bkn, .ref bnm, .int (nI tk9), .int (nI sz9), .int (nI u.2.2.2.2.2.2.2.1)])), (bw, .inl (k 0, 200, .inl wd)), (bst, .inl (k 0, 40, .inl (fun i => nI (u.1 i)))), (bfi, .inl (k 0, 40, .inl (fun i => nI (u.2.1 i)))), (bse, .inl (k 0, 40, .inl (fun i => nI (u.2.2.1 i)))), (bkn, .inl (k 0, 40, .inl (fun i => nI (u.2.2.2.1 i)))), (bnm, .inl (k 0, 40, .inl (fun i => nI (u.2.2.2.2.1 i)))), (ra, .inl (k 3, 4, .inr (.inr (.inr (.inr bf))))), (o1, .inr (4, [.ref o1_0, .ref o1_1, .ref o1_2, .ref o1_3, .ref o1_4, .ref o1_5, .int (nI t1), .int os1, .int on1])), (o2, .inr (4, [.ref o2_0, .ref o2_1, .ref o2_2, .ref o2_3, .ref o2_4, .ref o2_5, .int (nI t2), .int os2, .int on2])), (o3, .inr (4, [.ref o3_0, .ref o3_1, .ref o3_2, .ref o3_3, .ref o3_4, .ref o3_5, .int (nI t3), .int os3, .int on3]))]) 0 0 := by
  refine met_start (by decide) (Nat.le_of_ble_eq_true rfl) ?_
  intro p e s m below meth c C K hA hsz S ls hl
  generalize va_A [(h0, .inr (5, [.ref ra, .ref bc, .int (nI nf), .int (nI nx), .int (-2)])), (bc, .inr (4, [.ref bw, .ref bst, .ref bfi, .ref bse, .ref bkn, .ref bnm, .int (nI tk9), .int (nI sz9), .int (nI (x9 + 1))])), (bw, .inl (k 0, 200, .inl wd)), (bst, .inl (k 0, 40, .inl (fun i => nI (sta i)))), (bfi, .inl (k 0, 40, .inl (fun i => nI (fir i)))), (bse, .inl (k 0, 40, .inl (fun i => nI (sec i)))), (bkn, .inl (k 0, 40, .inl (fun i => nI (kno i)))), (bnm, .inl (k 0, 40, .inl (fun i => nI (nam i)))), (ra, .inl (k 3, 4, .inr (.inr (.inr (.inr bf))))), (o1, .inr (4, [.ref o1_0, .ref o1_1, .ref o1_2, .ref o1_3, .ref o1_4, .ref o1_5, .int (nI t1), .int os1, .int on1])), (o2, .inr (4, [.ref o2_0, .ref o2_1, .ref o2_2, .ref o2_3, .ref o2_4, .ref o2_5, .int (nI t2), .int os2, .int on2])), (o3, .inr (4, [.ref o3_0, .ref o3_1, .ref o3_2, .ref o3_3, .ref o3_4, .ref o3_5, .int (nI t3), .int os3, .int on3]))] s0 = A at hA S ⊢
  have hx := C.1
  have hb := C.2.1
  have hl : lv_has ls 6 [(0, .ref h0), (1, .int (nI x9)), (2, .int (nI dp)), (3, .int 1)] := hl
  refine lv_aload_n hx hb d_Re_parts_0 rfl (lv_at hl 0 rfl) ?_
  refine lv_aload_n hx hb d_Re_parts_1 rfl (lv_at hl 0 rfl) ?_
  refine r_get C K S 0 rfl rfl clOk_Re 1 (by decide) wf_Re_19 (v := .ref bc) rfl d_Re_parts_2 ?_
  refine r_getN C K S 1 rfl rfl clOk_Bo 4 (by decide) xf_Re_61 (v := .ref bkn) rfl d_Re_parts_5 ?_
  refine lv_iload_n hx hb d_Re_parts_8 rfl (lv_at hl 1 rfl) ?_
  refine r_iald C K S 6 rfl (i := nI x9) (show vp_in (nI x9) _ from vp_in_nI (n := x9) (by omega) (by decide)) (v := nI (kno x9)) (by rw [nI_clamp (by omega)]) d_Re_parts_9 ?_
  refine lv_iload_n hx hb d_Re_parts_10 rfl (lv_at hl 2 rfl) ?_
  refine lv_iconst (v := 1) hx hb d_Re_parts_11 (by decide) ?_
  refine z_iadd (x := nI dp) (y := 1) (v := nI (dp + 1)) hx hb d_Re_parts_12 (nI_add dp 1) ?_
  refine r_backi (wi := [(h0, .inr (5, [.ref ra, .ref bc, .int (nI nf), .int (nI nx), .int (-2)])), (bc, .inr (4, [.ref bw, .ref bst, .ref bfi, .ref bse, .ref bkn, .ref bnm, .int (nI tk9), .int (nI sz9), .int (nI (x9 + 1))])), (bw, .inl (k 0, 200, .inl wd)), (bst, .inl (k 0, 40, .inl (fun i => nI (sta i)))), (bfi, .inl (k 0, 40, .inl (fun i => nI (fir i)))), (bse, .inl (k 0, 40, .inl (fun i => nI (sec i)))), (bkn, .inl (k 0, 40, .inl (fun i => nI (kno i)))), (bnm, .inl (k 0, 40, .inl (fun i => nI (nam i)))), (ra, .inl (k 3, 4, .inr (.inr (.inr (.inr bf))))), (o1, .inr (4, [.ref o1_0, .ref o1_1, .ref o1_2, .ref o1_3, .ref o1_4, .ref o1_5, .int (nI t1), .int os1, .int on1])), (o2, .inr (4, [.ref o2_0, .ref o2_1, .ref o2_2, .ref o2_3, .ref o2_4, .ref o2_5, .int (nI t2), .int os2, .int on2])), (o3, .inr (4, [.ref o3_0, .ref o3_1, .ref o3_2, .ref o3_3, .ref o3_4, .ref o3_5, .int (nI t3), .int os3, .int on3]))]) (wr := []) S hA [0, 1, 2, 3, 4, 5, 6, 7, 8, 9, 10, 11] [] rfl rfl (by decide) (by decide) (va_runV (As := [.int (nI (kno x9)), .int (nI (dp + 1))]) (rest := []) ⟨hx, hb, C.2.2.1, C.2.2.2.1, C.2.2.2.2.1⟩ (hE l G k h0 _ (kno x9) (dp + 1) ra bc nf nx bw bst bfi bse bkn bnm tk9 sz9 (x9 + 1) o1 o2 o3 o1_0 o1_1 o1_2 o1_3 o1_4 o1_5 o2_0 o2_1 o2_2 o2_3 o2_4 o2_5 o3_0 o3_1 o3_2 o3_3 o3_4 o3_5 t1 t2 t3 os1 os2 os3 on1 on2 on3 wd sta fir sec kno nam bf tk En (by omega) hnx hs2 hnf (by omega) (by omega) hbf htk) (k_virt (n := 2) C wc_Re_expression rfl rfl wz_Re wm_Re_37 wn_Re_expression ws_Re_expression (by decide +kernel) ⟨(by dsimp only; omega), (by dsimp only; omega)⟩) (pr_nowV K S [0, 1, 2, 3, 4, 5, 6, 7, 8, 9, 10, 11] (by decide) rfl 0 rfl rfl) rfl rfl hl.1 rfl (lv_room (Nat.le_of_ble_eq_true rfl)) d_Re_parts_13 ⟨(Nat.le_of_ble_eq_true rfl), (Nat.le_of_ble_eq_true rfl)⟩) (fun r3 u1 H locs hw2 S => ?_)
  have S : Sw G A s.heap _ _ [(h0, .inr (5, [.ref ra, .ref bc, .int (nI nf), .int (nI u1.2.2.2.2.2.1), .int (wrI u1.2.2.2.2.2.2.1)])), (bc, .inr (4, [.ref bw, .ref bst, .ref bfi, .ref bse, .ref bkn, .ref bnm, .int (nI tk9), .int (nI sz9), .int (nI u1.2.2.2.2.2.2.2.1)])), (bw, .inl (k 0, 200, .inl wd)), (bst, .inl (k 0, 40, .inl (fun i => nI (u1.1 i)))), (bfi, .inl (k 0, 40, .inl (fun i => nI (u1.2.1 i)))), (bse, .inl (k 0, 40, .inl (fun i => nI (u1.2.2.1 i)))), (bkn, .inl (k 0, 40, .inl (fun i => nI (u1.2.2.2.1 i)))), (bnm, .inl (k 0, 40, .inl (fun i => nI (u1.2.2.2.2.1 i)))), (ra, .inl (k 3, 4, .inr (.inr (.inr (.inr bf))))), (o1, .inr (4, [.ref o1_0, .ref o1_1, .ref o1_2, .ref o1_3, .ref o1_4, .ref o1_5, .int (nI t1), .int os1, .int on1])), (o2, .inr (4, [.ref o2_0, .ref o2_1, .ref o2_2, .ref o2_3, .ref o2_4, .ref o2_5, .int (nI t2), .int os2, .int on2])), (o3, .inr (4, [.ref o3_0, .ref o3_1, .ref o3_2, .ref o3_3, .ref o3_4, .ref o3_5, .int (nI t3), .int os3, .int on3]))] := S
  obtain ⟨hw20, hp1⟩ := hw2
  obtain rfl : r3 = nI u1.2.2.2.2.2.2.2.2 := hw20
  obtain ⟨sta1, fir1, sec1, kno1, nam1, nx1, b1, nd1, x1⟩ := u1
  have S : Sw G A s.heap H locs [(h0, .inr (5, [.ref ra, .ref bc, .int (nI nf), .int (nI nx1), .int (wrI b1)])), (bc, .inr (4, [.ref bw, .ref bst, .ref bfi, .ref bse, .ref bkn, .ref bnm, .int (nI tk9), .int (nI sz9), .int (nI nd1)])), (bw, .inl (k 0, 200, .inl wd)), (bst, .inl (k 0, 40, .inl (fun i => nI (sta1 i)))), (bfi, .inl (k 0, 40, .inl (fun i => nI (fir1 i)))), (bse, .inl (k 0, 40, .inl (fun i => nI (sec1 i)))), (bkn, .inl (k 0, 40, .inl (fun i => nI (kno1 i)))), (bnm, .inl (k 0, 40, .inl (fun i => nI (nam1 i)))), (ra, .inl (k 3, 4, .inr (.inr (.inr (.inr bf))))), (o1, .inr (4, [.ref o1_0, .ref o1_1, .ref o1_2, .ref o1_3, .ref o1_4, .ref o1_5, .int (nI t1), .int os1, .int on1])), (o2, .inr (4, [.ref o2_0, .ref o2_1, .ref o2_2, .ref o2_3, .ref o2_4, .ref o2_5, .int (nI t2), .int os2, .int on2])), (o3, .inr (4, [.ref o3_0, .ref o3_1, .ref o3_2, .ref o3_3, .ref o3_4, .ref o3_5, .int (nI t3), .int os3, .int on3]))] := S
  have hx1 : x1 < 40 := hp1.1
  refine lv_istore (lv' := [(4, .int (nI x1)), (0, .ref h0), (1, .int (nI x9)), (2, .int (nI dp)), (3, .int 1)]) hx hb d_Re_parts_16 hl (by decide) rfl (fun ls hl => ?_)
  refine lv_aload_n hx hb d_Re_parts_18 rfl (lv_at hl 1 rfl) ?_
  refine r_get C K S 0 rfl rfl clOk_Re 1 (by decide) wf_Re_19 (v := .ref bc) rfl d_Re_parts_19 ?_
  refine r_getN C K S 1 rfl rfl clOk_Bo 2 (by decide) xf_Re_65 (v := .ref bfi) rfl d_Re_parts_22 ?_
  refine lv_iload_n hx hb d_Re_parts_25 rfl (lv_at hl 2 rfl) ?_
  refine lv_iload hx hb d_Re_parts_26 (lv_at hl 0 rfl) ?_
  refine r_iast C K S 4 rfl (i := nI x9) (x := nI x1) (show vp_in (nI x9) _ from vp_in_nI (n := x9) (by omega) (by decide)) (f' := fun i => nI (va_up fir1 x9 x1 i)) (ws' := [(h0, .inr (5, [.ref ra, .ref bc, .int (nI nf), .int (nI nx1), .int (wrI b1)])), (bc, .inr (4, [.ref bw, .ref bst, .ref bfi, .ref bse, .ref bkn, .ref bnm, .int (nI tk9), .int (nI sz9), .int (nI nd1)])), (bw, .inl (k 0, 200, .inl wd)), (bst, .inl (k 0, 40, .inl (fun i => nI (sta1 i)))), (bfi, .inl (k 0, 40, .inl (fun i => nI (va_up fir1 x9 x1 i)))), (bse, .inl (k 0, 40, .inl (fun i => nI (sec1 i)))), (bkn, .inl (k 0, 40, .inl (fun i => nI (kno1 i)))), (bnm, .inl (k 0, 40, .inl (fun i => nI (nam1 i)))), (ra, .inl (k 3, 4, .inr (.inr (.inr (.inr bf))))), (o1, .inr (4, [.ref o1_0, .ref o1_1, .ref o1_2, .ref o1_3, .ref o1_4, .ref o1_5, .int (nI t1), .int os1, .int on1])), (o2, .inr (4, [.ref o2_0, .ref o2_1, .ref o2_2, .ref o2_3, .ref o2_4, .ref o2_5, .int (nI t2), .int os2, .int on2])), (o3, .inr (4, [.ref o3_0, .ref o3_1, .ref o3_2, .ref o3_3, .ref o3_4, .ref o3_5, .int (nI t3), .int os3, .int on3]))]) (show upd _ (nI x9 : Int32).toNatClampNeg (nI x1) = _ from upd_nI fir1 (j := x9) (by omega) x1) rfl d_Re_parts_28 (fun H locs S => ?_)
  refine lv_aload_n hx hb d_Re_parts_29 rfl (lv_at hl 1 rfl) ?_
  refine r_get C K S 0 rfl rfl clOk_Re 1 (by decide) wf_Re_19 (v := .ref bc) rfl d_Re_parts_30 ?_
  refine r_getN C K S 1 rfl rfl clOk_Bo 5 (by decide) xf_Re_68 (v := .ref bnm) rfl d_Re_parts_33 ?_
  refine lv_iload_n hx hb d_Re_parts_36 rfl (lv_at hl 2 rfl) ?_
  refine lv_dup2_11 hx hb d_Re_parts_37 rfl rfl ?_
  refine r_iald C K S 7 rfl (i := nI x9) (show vp_in (nI x9) _ from vp_in_nI (n := x9) (by omega) (by decide)) (v := nI (nam1 x9)) (by rw [nI_clamp (by omega)]) d_Re_parts_38 ?_
  refine lv_aload_n hx hb d_Re_parts_39 rfl (lv_at hl 1 rfl) ?_
  refine r_get C K S 0 rfl rfl clOk_Re 1 (by decide) wf_Re_19 (v := .ref bc) rfl d_Re_parts_40 ?_
  refine r_getN C K S 1 rfl rfl clOk_Bo 5 (by decide) xf_Re_68 (v := .ref bnm) rfl d_Re_parts_43 ?_
  refine lv_iload hx hb d_Re_parts_46 (lv_at hl 0 rfl) ?_
  refine r_iald C K S 7 rfl (i := nI x1) (show vp_in (nI x1) _ from vp_in_nI (n := x1) (by omega) (by decide)) (v := nI (nam1 x1)) (by rw [nI_clamp (by omega)]) d_Re_parts_48 ?_
  refine z_ior (v := nI (nam1 x9 ||| nam1 x1)) hx hb d_Re_parts_49 (nx_or _ _) ?_
  refine r_iast C K S 7 rfl (i := nI x9) (x := nI (nam1 x9 ||| nam1 x1)) (show vp_in (nI x9) _ from vp_in_nI (n := x9) (by omega) (by decide)) (f' := fun i => nI (va_up nam1 x9 (nam1 x9 ||| nam1 x1) i)) (ws' := [(h0, .inr (5, [.ref ra, .ref bc, .int (nI nf), .int (nI nx1), .int (wrI b1)])), (bc, .inr (4, [.ref bw, .ref bst, .ref bfi, .ref bse, .ref bkn, .ref bnm, .int (nI tk9), .int (nI sz9), .int (nI nd1)])), (bw, .inl (k 0, 200, .inl wd)), (bst, .inl (k 0, 40, .inl (fun i => nI (sta1 i)))), (bfi, .inl (k 0, 40, .inl (fun i => nI (va_up fir1 x9 x1 i)))), (bse, .inl (k 0, 40, .inl (fun i => nI (sec1 i)))), (bkn, .inl (k 0, 40, .inl (fun i => nI (kno1 i)))), (bnm, .inl (k 0, 40, .inl (fun i => nI (va_up nam1 x9 (nam1 x9 ||| nam1 x1) i)))), (ra, .inl (k 3, 4, .inr (.inr (.inr (.inr bf))))), (o1, .inr (4, [.ref o1_0, .ref o1_1, .ref o1_2, .ref o1_3, .ref o1_4, .ref o1_5, .int (nI t1), .int os1, .int on1])), (o2, .inr (4, [.ref o2_0, .ref o2_1, .ref o2_2, .ref o2_3, .ref o2_4, .ref o2_5, .int (nI t2), .int os2, .int on2])), (o3, .inr (4, [.ref o3_0, .ref o3_1, .ref o3_2, .ref o3_3, .ref o3_4, .ref o3_5, .int (nI t3), .int os3, .int on3]))]) (show upd _ (nI x9 : Int32).toNatClampNeg (nI (nam1 x9 ||| nam1 x1)) = _ from upd_nI nam1 (j := x9) (by omega) (nam1 x9 ||| nam1 x1)) rfl d_Re_parts_50 (fun H locs S => ?_)
  refine lv_iload_n hx hb d_Re_parts_51 rfl (lv_at hl 4 rfl) ?_
  refine lv_if_eq (tgt := 108) hx hb d_Re_parts_52 (by decide) (fun hq => absurd hq (by decide)) (fun _ => ?_)
  cases hpr : prs wd tk nf sz9 fu (kno x9) nx (x9 + 1) En with
  | inl b9 =>
    rw [hpr] at hp1
    have hb1 : b1 = some b9 := hp1.2
    subst hb1
    have hb9 : b9 ≤ sz9 := by have := prs_le (W := wd) (tk := tk) (nf := nf) (cnt := sz9) fu (kno x9) nx (x9 + 1) En hnx; rw [hpr] at this; exact this
    have S : Sw G A s.heap H locs [(h0, .inr (5, [.ref ra, .ref bc, .int (nI nf), .int (nI nx1), .int (nI b9)])), (bc, .inr (4, [.ref bw, .ref bst, .ref bfi, .ref bse, .ref bkn, .ref bnm, .int (nI tk9), .int (nI sz9), .int (nI nd1)])), (bw, .inl (k 0, 200, .inl wd)), (bst, .inl (k 0, 40, .inl (fun i => nI (sta1 i)))), (bfi, .inl (k 0, 40, .inl (fun i => nI ((va_up fir1 x9 x1) i)))), (bse, .inl (k 0, 40, .inl (fun i => nI (sec1 i)))), (bkn, .inl (k 0, 40, .inl (fun i => nI (kno1 i)))), (bnm, .inl (k 0, 40, .inl (fun i => nI ((va_up nam1 x9 (nam1 x9 ||| nam1 x1)) i)))), (ra, .inl (k 3, 4, .inr (.inr (.inr (.inr bf))))), (o1, .inr (4, [.ref o1_0, .ref o1_1, .ref o1_2, .ref o1_3, .ref o1_4, .ref o1_5, .int (nI t1), .int os1, .int on1])), (o2, .inr (4, [.ref o2_0, .ref o2_1, .ref o2_2, .ref o2_3, .ref o2_4, .ref o2_5, .int (nI t2), .int os2, .int on2])), (o3, .inr (4, [.ref o3_0, .ref o3_1, .ref o3_2, .ref o3_3, .ref o3_4, .ref o3_5, .int (nI t3), .int os3, .int on3]))] := S
    refine lv_aload_n hx hb d_Re_parts_55 rfl (lv_at hl 1 rfl) ?_
    refine lv_aload_n hx hb d_Re_parts_56 rfl (lv_at hl 1 rfl) ?_
    refine r_get C K S 0 rfl rfl clOk_Re 1 (by decide) wf_Re_19 (v := .ref bc) rfl d_Re_parts_57 ?_
    refine r_getN C K S 1 rfl rfl clOk_Bo 4 (by decide) xf_Re_61 (v := .ref bkn) rfl d_Re_parts_60 ?_
    refine lv_iload_n hx hb d_Re_parts_63 rfl (lv_at hl 2 rfl) ?_
    refine r_iald C K S 6 rfl (i := nI x9) (show vp_in (nI x9) _ from vp_in_nI (n := x9) (by omega) (by decide)) (v := nI (kno1 x9)) (by rw [nI_clamp (by omega)]) d_Re_parts_64 ?_
    refine lv_iconst (v := 1) hx hb d_Re_parts_65 (by decide) ?_
    refine z_iadd (x := nI (kno1 x9)) (y := 1) (v := nI (kno1 x9 + 1)) hx hb d_Re_parts_66 (nI_add (kno1 x9) 1) ?_
    refine lv_iload_n hx hb d_Re_parts_67 rfl (lv_at hl 3 rfl) ?_
    refine lv_iconst (v := 1) hx hb d_Re_parts_68 (by decide) ?_
    refine z_iadd (x := nI dp) (y := 1) (v := nI (dp + 1)) hx hb d_Re_parts_69 (nI_add dp 1) ?_
    refine r_backi (wi := [(h0, .inr (5, [.ref ra, .ref bc, .int (nI nf), .int (nI nx1), .int (nI b9)])), (bc, .inr (4, [.ref bw, .ref bst, .ref bfi, .ref bse, .ref bkn, .ref bnm, .int (nI tk9), .int (nI sz9), .int (nI nd1)])), (bw, .inl (k 0, 200, .inl wd))]) (wr := [(bst, .inl (k 0, 40, .inl (fun i => nI (sta1 i)))), (bfi, .inl (k 0, 40, .inl (fun i => nI ((va_up fir1 x9 x1) i)))), (bse, .inl (k 0, 40, .inl (fun i => nI (sec1 i)))), (bkn, .inl (k 0, 40, .inl (fun i => nI (kno1 i)))), (bnm, .inl (k 0, 40, .inl (fun i => nI ((va_up nam1 x9 (nam1 x9 ||| nam1 x1)) i)))), (ra, .inl (k 3, 4, .inr (.inr (.inr (.inr bf))))), (o1, .inr (4, [.ref o1_0, .ref o1_1, .ref o1_2, .ref o1_3, .ref o1_4, .ref o1_5, .int (nI t1), .int os1, .int on1])), (o2, .inr (4, [.ref o2_0, .ref o2_1, .ref o2_2, .ref o2_3, .ref o2_4, .ref o2_5, .int (nI t2), .int os2, .int on2])), (o3, .inr (4, [.ref o3_0, .ref o3_1, .ref o3_2, .ref o3_3, .ref o3_4, .ref o3_5, .int (nI t3), .int os3, .int on3]))]) S hA [0, 1, 2] [3, 4, 5, 6, 7, 8, 9, 10, 11] rfl rfl (by decide) (by decide) (va_runV (As := [.int (nI (kno1 x9 + 1)), .int (nI (dp + 1))]) (rest := []) ⟨hx, hb, C.2.2.1, C.2.2.2.1, C.2.2.2.2.1⟩ (g_Re_expression_w l G k h0 _ (nI (kno1 x9 + 1)) (nI (dp + 1)) (nI b9) ra bc nf nx1 bw bst bfi bse bkn bnm tk9 sz9 nd1 wd (nI_ne2 (by omega))) (k_virt (n := 2) C wc_Re_expression rfl rfl wz_Re wm_Re_37 wn_Re_expression ws_Re_expression (by decide +kernel) ⟨(by dsimp only; omega), (by dsimp only; omega)⟩) (pr_nowV K S [0, 1, 2] (by decide) rfl 0 rfl rfl) rfl rfl hl.1 rfl (lv_room (Nat.le_of_ble_eq_true rfl)) d_Re_parts_70 ⟨(Nat.le_of_ble_eq_true rfl), (Nat.le_of_ble_eq_true rfl)⟩) (fun r6 u4 H locs hw5 S => ?_)
    have S : Sw G A s.heap _ _ [(bst, .inl (k 0, 40, .inl (fun i => nI (sta1 i)))), (bfi, .inl (k 0, 40, .inl (fun i => nI ((va_up fir1 x9 x1) i)))), (bse, .inl (k 0, 40, .inl (fun i => nI (sec1 i)))), (bkn, .inl (k 0, 40, .inl (fun i => nI (kno1 i)))), (bnm, .inl (k 0, 40, .inl (fun i => nI ((va_up nam1 x9 (nam1 x9 ||| nam1 x1)) i)))), (ra, .inl (k 3, 4, .inr (.inr (.inr (.inr bf))))), (o1, .inr (4, [.ref o1_0, .ref o1_1, .ref o1_2, .ref o1_3, .ref o1_4, .ref o1_5, .int (nI t1), .int os1, .int on1])), (o2, .inr (4, [.ref o2_0, .ref o2_1, .ref o2_2, .ref o2_3, .ref o2_4, .ref o2_5, .int (nI t2), .int os2, .int on2])), (o3, .inr (4, [.ref o3_0, .ref o3_1, .ref o3_2, .ref o3_3, .ref o3_4, .ref o3_5, .int (nI t3), .int os3, .int on3])), (h0, .inr (5, [.ref ra, .ref bc, .int (nI nf), .int (nI nx1), .int (nI b9)])), (bc, .inr (4, [.ref bw, .ref bst, .ref bfi, .ref bse, .ref bkn, .ref bnm, .int (nI tk9), .int (nI sz9), .int (nI nd1)])), (bw, .inl (k 0, 200, .inl wd))] := S
    obtain ⟨hw50, hp7⟩ := hw5
    obtain rfl : r6 = 0 := hw50
    refine lv_istore (lv' := [(5, .int 0), (4, .int (nI x1)), (0, .ref h0), (1, .int (nI x9)), (2, .int (nI dp)), (3, .int 1)]) hx hb d_Re_parts_73 hl (by decide) rfl (fun ls hl => ?_)
    refine lv_aload_n hx hb d_Re_parts_75 rfl (lv_at hl 2 rfl) ?_
    refine r_get C K S 9 rfl rfl clOk_Re 1 (by decide) wf_Re_19 (v := .ref bc) rfl d_Re_parts_76 ?_
    refine r_getN C K S 10 rfl rfl clOk_Bo 3 (by decide) xf_Re_71 (v := .ref bse) rfl d_Re_parts_79 ?_
    refine lv_iload_n hx hb d_Re_parts_82 rfl (lv_at hl 3 rfl) ?_
    refine lv_iload hx hb d_Re_parts_83 (lv_at hl 0 rfl) ?_
    refine r_iast C K S 2 rfl (i := nI x9) (x := 0) (show vp_in (nI x9) _ from vp_in_nI (n := x9) (by omega) (by decide)) (f' := fun i => nI (va_up sec1 x9 0 i)) (ws' := [(bst, .inl (k 0, 40, .inl (fun i => nI (sta1 i)))), (bfi, .inl (k 0, 40, .inl (fun i => nI ((va_up fir1 x9 x1) i)))), (bse, .inl (k 0, 40, .inl (fun i => nI (va_up sec1 x9 0 i)))), (bkn, .inl (k 0, 40, .inl (fun i => nI (kno1 i)))), (bnm, .inl (k 0, 40, .inl (fun i => nI ((va_up nam1 x9 (nam1 x9 ||| nam1 x1)) i)))), (ra, .inl (k 3, 4, .inr (.inr (.inr (.inr bf))))), (o1, .inr (4, [.ref o1_0, .ref o1_1, .ref o1_2, .ref o1_3, .ref o1_4, .ref o1_5, .int (nI t1), .int os1, .int on1])), (o2, .inr (4, [.ref o2_0, .ref o2_1, .ref o2_2, .ref o2_3, .ref o2_4, .ref o2_5, .int (nI t2), .int os2, .int on2])), (o3, .inr (4, [.ref o3_0, .ref o3_1, .ref o3_2, .ref o3_3, .ref o3_4, .ref o3_5, .int (nI t3), .int os3, .int on3])), (h0, .inr (5, [.ref ra, .ref bc, .int (nI nf), .int (nI nx1), .int (nI b9)])), (bc, .inr (4, [.ref bw, .ref bst, .ref bfi, .ref bse, .ref bkn, .ref bnm, .int (nI tk9), .int (nI sz9), .int (nI nd1)])), (bw, .inl (k 0, 200, .inl wd))]) (show upd _ (nI x9 : Int32).toNatClampNeg 0 = _ from upd_nI sec1 (j := x9) (by omega) 0) rfl d_Re_parts_85 (fun H locs S => ?_)
    refine lv_aload_n hx hb d_Re_parts_86 rfl (lv_at hl 2 rfl) ?_
    refine r_get C K S 9 rfl rfl clOk_Re 1 (by decide) wf_Re_19 (v := .ref bc) rfl d_Re_parts_87 ?_
    refine r_getN C K S 10 rfl rfl clOk_Bo 5 (by decide) xf_Re_68 (v := .ref bnm) rfl d_Re_parts_90 ?_
    refine lv_iload_n hx hb d_Re_parts_93 rfl (lv_at hl 3 rfl) ?_
    refine lv_dup2_11 hx hb d_Re_parts_94 rfl rfl ?_
    refine r_iald C K S 4 rfl (i := nI x9) (show vp_in (nI x9) _ from vp_in_nI (n := x9) (by omega) (by decide)) (v := nI ((va_up nam1 x9 (nam1 x9 ||| nam1 x1)) x9)) (by rw [nI_clamp (by omega)]) d_Re_parts_95 ?_
    refine lv_aload_n hx hb d_Re_parts_96 rfl (lv_at hl 2 rfl) ?_
    refine r_get C K S 9 rfl rfl clOk_Re 1 (by decide) wf_Re_19 (v := .ref bc) rfl d_Re_parts_97 ?_
    refine r_getN C K S 10 rfl rfl clOk_Bo 5 (by decide) xf_Re_68 (v := .ref bnm) rfl d_Re_parts_100 ?_
    refine lv_iload hx hb d_Re_parts_103 (lv_at hl 0 rfl) ?_
    refine r_iald C K S 4 rfl (i := 0) (by unfold vp_in; decide) (v := nI ((va_up nam1 x9 (nam1 x9 ||| nam1 x1)) 0)) (by rw [show (0 : Int32).toNatClampNeg = 0 from by decide]) d_Re_parts_105 ?_
    refine z_ior (v := nI ((va_up nam1 x9 (nam1 x9 ||| nam1 x1)) x9 ||| (va_up nam1 x9 (nam1 x9 ||| nam1 x1)) 0)) hx hb d_Re_parts_106 (nx_or _ _) ?_
    refine r_iast C K S 4 rfl (i := nI x9) (x := nI ((va_up nam1 x9 (nam1 x9 ||| nam1 x1)) x9 ||| (va_up nam1 x9 (nam1 x9 ||| nam1 x1)) 0)) (show vp_in (nI x9) _ from vp_in_nI (n := x9) (by omega) (by decide)) (f' := fun i => nI (va_up (va_up nam1 x9 (nam1 x9 ||| nam1 x1)) x9 ((va_up nam1 x9 (nam1 x9 ||| nam1 x1)) x9 ||| (va_up nam1 x9 (nam1 x9 ||| nam1 x1)) 0) i)) (ws' := [(bst, .inl (k 0, 40, .inl (fun i => nI (sta1 i)))), (bfi, .inl (k 0, 40, .inl (fun i => nI ((va_up fir1 x9 x1) i)))), (bse, .inl (k 0, 40, .inl (fun i => nI (va_up sec1 x9 0 i)))), (bkn, .inl (k 0, 40, .inl (fun i => nI (kno1 i)))), (bnm, .inl (k 0, 40, .inl (fun i => nI (va_up (va_up nam1 x9 (nam1 x9 ||| nam1 x1)) x9 ((va_up nam1 x9 (nam1 x9 ||| nam1 x1)) x9 ||| (va_up nam1 x9 (nam1 x9 ||| nam1 x1)) 0) i)))), (ra, .inl (k 3, 4, .inr (.inr (.inr (.inr bf))))), (o1, .inr (4, [.ref o1_0, .ref o1_1, .ref o1_2, .ref o1_3, .ref o1_4, .ref o1_5, .int (nI t1), .int os1, .int on1])), (o2, .inr (4, [.ref o2_0, .ref o2_1, .ref o2_2, .ref o2_3, .ref o2_4, .ref o2_5, .int (nI t2), .int os2, .int on2])), (o3, .inr (4, [.ref o3_0, .ref o3_1, .ref o3_2, .ref o3_3, .ref o3_4, .ref o3_5, .int (nI t3), .int os3, .int on3])), (h0, .inr (5, [.ref ra, .ref bc, .int (nI nf), .int (nI nx1), .int (nI b9)])), (bc, .inr (4, [.ref bw, .ref bst, .ref bfi, .ref bse, .ref bkn, .ref bnm, .int (nI tk9), .int (nI sz9), .int (nI nd1)])), (bw, .inl (k 0, 200, .inl wd))]) (show upd _ (nI x9 : Int32).toNatClampNeg (nI ((va_up nam1 x9 (nam1 x9 ||| nam1 x1)) x9 ||| (va_up nam1 x9 (nam1 x9 ||| nam1 x1)) 0)) = _ from upd_nI (va_up nam1 x9 (nam1 x9 ||| nam1 x1)) (j := x9) (by omega) ((va_up nam1 x9 (nam1 x9 ||| nam1 x1)) x9 ||| (va_up nam1 x9 (nam1 x9 ||| nam1 x1)) 0)) rfl d_Re_parts_107 (fun H locs S => ?_)
    exact r_vret C K (sta1, va_up fir1 x9 x1, va_up sec1 x9 0, kno1, va_up (va_up nam1 x9 (nam1 x9 ||| nam1 x1)) x9 ((va_up nam1 x9 (nam1 x9 ||| nam1 x1)) x9 ||| (va_up nam1 x9 (nam1 x9 ||| nam1 x1)) 0), nx1, some b9, nd1, 0) (pa2_of hpr rfl) (S.sub [9, 10, 11, 0, 1, 2, 3, 4, 5, 6, 7, 8] (by decide) rfl) d_Re_parts_108 (Nat.le_of_ble_eq_true rfl) (Nat.le_of_ble_eq_true rfl)
  | inr y9 =>
    obtain ⟨a2, n2, E2⟩ := y9
    rw [hpr] at hp1
    have hw9 := prs_wf hnf fu (kno x9) nx (x9 + 1) En a2 n2 E2 hpr hnx (by omega) (by omega)
    have hp2 := hp1
    obtain ⟨-, hb1, hn1, hd1, he1, hr1, -⟩ := hp2
    have hb1 : b1 = none := hb1
    have hn1 : nx1 = a2 := hn1
    have hd1 : nd1 = n2 := hd1
    have he1 : x1 = x9 + 1 := he1
    subst hb1 hn1 hd1
    have hk1 : kno1 x9 = kno x9 := (hr1 x9 (Nat.zero_le _) (Nat.lt_succ_self _)).2.2.2.1
    obtain ⟨-, -, -, -, hq2, hq3⟩ := hw9
    have S : Sw G A s.heap H locs [(h0, .inr (5, [.ref ra, .ref bc, .int (nI nf), .int (nI nx1), .int (-2)])), (bc, .inr (4, [.ref bw, .ref bst, .ref bfi, .ref bse, .ref bkn, .ref bnm, .int (nI tk9), .int (nI sz9), .int (nI nd1)])), (bw, .inl (k 0, 200, .inl wd)), (bst, .inl (k 0, 40, .inl (fun i => nI (sta1 i)))), (bfi, .inl (k 0, 40, .inl (fun i => nI ((va_up fir1 x9 x1) i)))), (bse, .inl (k 0, 40, .inl (fun i => nI (sec1 i)))), (bkn, .inl (k 0, 40, .inl (fun i => nI (kno1 i)))), (bnm, .inl (k 0, 40, .inl (fun i => nI ((va_up nam1 x9 (nam1 x9 ||| nam1 x1)) i)))), (ra, .inl (k 3, 4, .inr (.inr (.inr (.inr bf))))), (o1, .inr (4, [.ref o1_0, .ref o1_1, .ref o1_2, .ref o1_3, .ref o1_4, .ref o1_5, .int (nI t1), .int os1, .int on1])), (o2, .inr (4, [.ref o2_0, .ref o2_1, .ref o2_2, .ref o2_3, .ref o2_4, .ref o2_5, .int (nI t2), .int os2, .int on2])), (o3, .inr (4, [.ref o3_0, .ref o3_1, .ref o3_2, .ref o3_3, .ref o3_4, .ref o3_5, .int (nI t3), .int os3, .int on3]))] := S
    refine lv_aload_n hx hb d_Re_parts_55 rfl (lv_at hl 1 rfl) ?_
    refine lv_aload_n hx hb d_Re_parts_56 rfl (lv_at hl 1 rfl) ?_
    refine r_get C K S 0 rfl rfl clOk_Re 1 (by decide) wf_Re_19 (v := .ref bc) rfl d_Re_parts_57 ?_
    refine r_getN C K S 1 rfl rfl clOk_Bo 4 (by decide) xf_Re_61 (v := .ref bkn) rfl d_Re_parts_60 ?_
    refine lv_iload_n hx hb d_Re_parts_63 rfl (lv_at hl 2 rfl) ?_
    refine r_iald C K S 6 rfl (i := nI x9) (show vp_in (nI x9) _ from vp_in_nI (n := x9) (by omega) (by decide)) (v := nI (kno1 x9)) (by rw [nI_clamp (by omega)]) d_Re_parts_64 ?_
    rw [hk1]
    refine lv_iconst (v := 1) hx hb d_Re_parts_65 (by decide) ?_
    refine z_iadd (x := nI (kno x9)) (y := 1) (v := nI (kno x9 + 1)) hx hb d_Re_parts_66 (nI_add (kno x9) 1) ?_
    refine lv_iload_n hx hb d_Re_parts_67 rfl (lv_at hl 3 rfl) ?_
    refine lv_iconst (v := 1) hx hb d_Re_parts_68 (by decide) ?_
    refine z_iadd (x := nI dp) (y := 1) (v := nI (dp + 1)) hx hb d_Re_parts_69 (nI_add dp 1) ?_
    refine r_backi (wi := [(h0, .inr (5, [.ref ra, .ref bc, .int (nI nf), .int (nI nx1), .int (-2)])), (bc, .inr (4, [.ref bw, .ref bst, .ref bfi, .ref bse, .ref bkn, .ref bnm, .int (nI tk9), .int (nI sz9), .int (nI nd1)])), (bw, .inl (k 0, 200, .inl wd)), (bst, .inl (k 0, 40, .inl (fun i => nI (sta1 i)))), (bfi, .inl (k 0, 40, .inl (fun i => nI ((va_up fir1 x9 x1) i)))), (bse, .inl (k 0, 40, .inl (fun i => nI (sec1 i)))), (bkn, .inl (k 0, 40, .inl (fun i => nI (kno1 i)))), (bnm, .inl (k 0, 40, .inl (fun i => nI ((va_up nam1 x9 (nam1 x9 ||| nam1 x1)) i)))), (ra, .inl (k 3, 4, .inr (.inr (.inr (.inr bf))))), (o1, .inr (4, [.ref o1_0, .ref o1_1, .ref o1_2, .ref o1_3, .ref o1_4, .ref o1_5, .int (nI t1), .int os1, .int on1])), (o2, .inr (4, [.ref o2_0, .ref o2_1, .ref o2_2, .ref o2_3, .ref o2_4, .ref o2_5, .int (nI t2), .int os2, .int on2])), (o3, .inr (4, [.ref o3_0, .ref o3_1, .ref o3_2, .ref o3_3, .ref o3_4, .ref o3_5, .int (nI t3), .int os3, .int on3]))]) (wr := []) S hA [0, 1, 2, 3, 4, 5, 6, 7, 8, 9, 10, 11] [] rfl rfl (by decide) (by decide) (va_runV (As := [.int (nI (kno x9 + 1)), .int (nI (dp + 1))]) (rest := []) ⟨hx, hb, C.2.2.1, C.2.2.2.1, C.2.2.2.2.1⟩ (hE l G k h0 _ (kno x9 + 1) (dp + 1) ra bc nf nx1 bw bst bfi bse bkn bnm tk9 sz9 nd1 o1 o2 o3 o1_0 o1_1 o1_2 o1_3 o1_4 o1_5 o2_0 o2_1 o2_2 o2_3 o2_4 o2_5 o3_0 o3_1 o3_2 o3_3 o3_4 o3_5 t1 t2 t3 os1 os2 os3 on1 on2 on3 wd sta1 (va_up fir1 x9 x1) sec1 kno1 (va_up nam1 x9 (nam1 x9 ||| nam1 x1)) bf tk E2 (by omega) hq2 hs2 hnf hq3 (by omega) hbf htk) (k_virt (n := 2) C wc_Re_expression rfl rfl wz_Re wm_Re_37 wn_Re_expression ws_Re_expression (by decide +kernel) ⟨(by dsimp only; omega), (by dsimp only; omega)⟩) (pr_nowV K S [0, 1, 2, 3, 4, 5, 6, 7, 8, 9, 10, 11] (by decide) rfl 0 rfl rfl) rfl rfl hl.1 rfl (lv_room (Nat.le_of_ble_eq_true rfl)) d_Re_parts_70 ⟨(Nat.le_of_ble_eq_true rfl), (Nat.le_of_ble_eq_true rfl)⟩) (fun r10 u8 H locs hw9 S => ?_)
    have S : Sw G A s.heap _ _ [(h0, .inr (5, [.ref ra, .ref bc, .int (nI nf), .int (nI u8.2.2.2.2.2.1), .int (wrI u8.2.2.2.2.2.2.1)])), (bc, .inr (4, [.ref bw, .ref bst, .ref bfi, .ref bse, .ref bkn, .ref bnm, .int (nI tk9), .int (nI sz9), .int (nI u8.2.2.2.2.2.2.2.1)])), (bw, .inl (k 0, 200, .inl wd)), (bst, .inl (k 0, 40, .inl (fun i => nI (u8.1 i)))), (bfi, .inl (k 0, 40, .inl (fun i => nI (u8.2.1 i)))), (bse, .inl (k 0, 40, .inl (fun i => nI (u8.2.2.1 i)))), (bkn, .inl (k 0, 40, .inl (fun i => nI (u8.2.2.2.1 i)))), (bnm, .inl (k 0, 40, .inl (fun i => nI (u8.2.2.2.2.1 i)))), (ra, .inl (k 3, 4, .inr (.inr (.inr (.inr bf))))), (o1, .inr (4, [.ref o1_0, .ref o1_1, .ref o1_2, .ref o1_3, .ref o1_4, .ref o1_5, .int (nI t1), .int os1, .int on1])), (o2, .inr (4, [.ref o2_0, .ref o2_1, .ref o2_2, .ref o2_3, .ref o2_4, .ref o2_5, .int (nI t2), .int os2, .int on2])), (o3, .inr (4, [.ref o3_0, .ref o3_1, .ref o3_2, .ref o3_3, .ref o3_4, .ref o3_5, .int (nI t3), .int os3, .int on3]))] := S
    obtain ⟨hw90, hp8⟩ := hw9
    obtain rfl : r10 = nI u8.2.2.2.2.2.2.2.2 := hw90
    obtain ⟨sta8, fir8, sec8, kno8, nam8, nx8, b8, nd8, x8⟩ := u8
    have S : Sw G A s.heap H locs [(h0, .inr (5, [.ref ra, .ref bc, .int (nI nf), .int (nI nx8), .int (wrI b8)])), (bc, .inr (4, [.ref bw, .ref bst, .ref bfi, .ref bse, .ref bkn, .ref bnm, .int (nI tk9), .int (nI sz9), .int (nI nd8)])), (bw, .inl (k 0, 200, .inl wd)), (bst, .inl (k 0, 40, .inl (fun i => nI (sta8 i)))), (bfi, .inl (k 0, 40, .inl (fun i => nI (fir8 i)))), (bse, .inl (k 0, 40, .inl (fun i => nI (sec8 i)))), (bkn, .inl (k 0, 40, .inl (fun i => nI (kno8 i)))), (bnm, .inl (k 0, 40, .inl (fun i => nI (nam8 i)))), (ra, .inl (k 3, 4, .inr (.inr (.inr (.inr bf))))), (o1, .inr (4, [.ref o1_0, .ref o1_1, .ref o1_2, .ref o1_3, .ref o1_4, .ref o1_5, .int (nI t1), .int os1, .int on1])), (o2, .inr (4, [.ref o2_0, .ref o2_1, .ref o2_2, .ref o2_3, .ref o2_4, .ref o2_5, .int (nI t2), .int os2, .int on2])), (o3, .inr (4, [.ref o3_0, .ref o3_1, .ref o3_2, .ref o3_3, .ref o3_4, .ref o3_5, .int (nI t3), .int os3, .int on3]))] := S
    have hx8 : x8 < 40 := hp8.1
    refine lv_istore (lv' := [(5, .int (nI x8)), (4, .int (nI x1)), (0, .ref h0), (1, .int (nI x9)), (2, .int (nI dp)), (3, .int 1)]) hx hb d_Re_parts_73 hl (by decide) rfl (fun ls hl => ?_)
    refine lv_aload_n hx hb d_Re_parts_75 rfl (lv_at hl 2 rfl) ?_
    refine r_get C K S 0 rfl rfl clOk_Re 1 (by decide) wf_Re_19 (v := .ref bc) rfl d_Re_parts_76 ?_
    refine r_getN C K S 1 rfl rfl clOk_Bo 3 (by decide) xf_Re_71 (v := .ref bse) rfl d_Re_parts_79 ?_
    refine lv_iload_n hx hb d_Re_parts_82 rfl (lv_at hl 3 rfl) ?_
    refine lv_iload hx hb d_Re_parts_83 (lv_at hl 0 rfl) ?_
    refine r_iast C K S 5 rfl (i := nI x9) (x := nI x8) (show vp_in (nI x9) _ from vp_in_nI (n := x9) (by omega) (by decide)) (f' := fun i => nI (va_up sec8 x9 x8 i)) (ws' := [(h0, .inr (5, [.ref ra, .ref bc, .int (nI nf), .int (nI nx8), .int (wrI b8)])), (bc, .inr (4, [.ref bw, .ref bst, .ref bfi, .ref bse, .ref bkn, .ref bnm, .int (nI tk9), .int (nI sz9), .int (nI nd8)])), (bw, .inl (k 0, 200, .inl wd)), (bst, .inl (k 0, 40, .inl (fun i => nI (sta8 i)))), (bfi, .inl (k 0, 40, .inl (fun i => nI (fir8 i)))), (bse, .inl (k 0, 40, .inl (fun i => nI (va_up sec8 x9 x8 i)))), (bkn, .inl (k 0, 40, .inl (fun i => nI (kno8 i)))), (bnm, .inl (k 0, 40, .inl (fun i => nI (nam8 i)))), (ra, .inl (k 3, 4, .inr (.inr (.inr (.inr bf))))), (o1, .inr (4, [.ref o1_0, .ref o1_1, .ref o1_2, .ref o1_3, .ref o1_4, .ref o1_5, .int (nI t1), .int os1, .int on1])), (o2, .inr (4, [.ref o2_0, .ref o2_1, .ref o2_2, .ref o2_3, .ref o2_4, .ref o2_5, .int (nI t2), .int os2, .int on2])), (o3, .inr (4, [.ref o3_0, .ref o3_1, .ref o3_2, .ref o3_3, .ref o3_4, .ref o3_5, .int (nI t3), .int os3, .int on3]))]) (show upd _ (nI x9 : Int32).toNatClampNeg (nI x8) = _ from upd_nI sec8 (j := x9) (by omega) x8) rfl d_Re_parts_85 (fun H locs S => ?_)
    refine lv_aload_n hx hb d_Re_parts_86 rfl (lv_at hl 2 rfl) ?_
    refine r_get C K S 0 rfl rfl clOk_Re 1 (by decide) wf_Re_19 (v := .ref bc) rfl d_Re_parts_87 ?_
    refine r_getN C K S 1 rfl rfl clOk_Bo 5 (by decide) xf_Re_68 (v := .ref bnm) rfl d_Re_parts_90 ?_
    refine lv_iload_n hx hb d_Re_parts_93 rfl (lv_at hl 3 rfl) ?_
    refine lv_dup2_11 hx hb d_Re_parts_94 rfl rfl ?_
    refine r_iald C K S 7 rfl (i := nI x9) (show vp_in (nI x9) _ from vp_in_nI (n := x9) (by omega) (by decide)) (v := nI (nam8 x9)) (by rw [nI_clamp (by omega)]) d_Re_parts_95 ?_
    refine lv_aload_n hx hb d_Re_parts_96 rfl (lv_at hl 2 rfl) ?_
    refine r_get C K S 0 rfl rfl clOk_Re 1 (by decide) wf_Re_19 (v := .ref bc) rfl d_Re_parts_97 ?_
    refine r_getN C K S 1 rfl rfl clOk_Bo 5 (by decide) xf_Re_68 (v := .ref bnm) rfl d_Re_parts_100 ?_
    refine lv_iload hx hb d_Re_parts_103 (lv_at hl 0 rfl) ?_
    refine r_iald C K S 7 rfl (i := nI x8) (show vp_in (nI x8) _ from vp_in_nI (n := x8) (by omega) (by decide)) (v := nI (nam8 x8)) (by rw [nI_clamp (by omega)]) d_Re_parts_105 ?_
    refine z_ior (v := nI (nam8 x9 ||| nam8 x8)) hx hb d_Re_parts_106 (nx_or _ _) ?_
    refine r_iast C K S 7 rfl (i := nI x9) (x := nI (nam8 x9 ||| nam8 x8)) (show vp_in (nI x9) _ from vp_in_nI (n := x9) (by omega) (by decide)) (f' := fun i => nI (va_up nam8 x9 (nam8 x9 ||| nam8 x8) i)) (ws' := [(h0, .inr (5, [.ref ra, .ref bc, .int (nI nf), .int (nI nx8), .int (wrI b8)])), (bc, .inr (4, [.ref bw, .ref bst, .ref bfi, .ref bse, .ref bkn, .ref bnm, .int (nI tk9), .int (nI sz9), .int (nI nd8)])), (bw, .inl (k 0, 200, .inl wd)), (bst, .inl (k 0, 40, .inl (fun i => nI (sta8 i)))), (bfi, .inl (k 0, 40, .inl (fun i => nI (fir8 i)))), (bse, .inl (k 0, 40, .inl (fun i => nI (va_up sec8 x9 x8 i)))), (bkn, .inl (k 0, 40, .inl (fun i => nI (kno8 i)))), (bnm, .inl (k 0, 40, .inl (fun i => nI (va_up nam8 x9 (nam8 x9 ||| nam8 x8) i)))), (ra, .inl (k 3, 4, .inr (.inr (.inr (.inr bf))))), (o1, .inr (4, [.ref o1_0, .ref o1_1, .ref o1_2, .ref o1_3, .ref o1_4, .ref o1_5, .int (nI t1), .int os1, .int on1])), (o2, .inr (4, [.ref o2_0, .ref o2_1, .ref o2_2, .ref o2_3, .ref o2_4, .ref o2_5, .int (nI t2), .int os2, .int on2])), (o3, .inr (4, [.ref o3_0, .ref o3_1, .ref o3_2, .ref o3_3, .ref o3_4, .ref o3_5, .int (nI t3), .int os3, .int on3]))]) (show upd _ (nI x9 : Int32).toNatClampNeg (nI (nam8 x9 ||| nam8 x8)) = _ from upd_nI nam8 (j := x9) (by omega) (nam8 x9 ||| nam8 x8)) rfl d_Re_parts_107 (fun H locs S => ?_)
    exact r_vret C K (sta8, fir8, va_up sec8 x9 x8, kno8, va_up nam8 x9 (nam8 x9 ||| nam8 x8), nx8, b8, nd8, 0) (pa2_two hpr hp1 hp8) (S.sub [0, 1, 2, 3, 4, 5, 6, 7, 8, 9, 10, 11] (by decide) rfl) d_Re_parts_108 (Nat.le_of_ble_eq_true rfl) (Nat.le_of_ble_eq_true rfl)
