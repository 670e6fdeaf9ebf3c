/-- an array of small numbers is written -/
theorem upd_nI (g : Nat → Nat) {j : Nat} (hj : j < 2 ^ 31) (v : Nat) : upd (fun i => nI (g i)) (nI j).toNatClampNeg (nI v) = fun i => nI (va_up g j v i) := by
  rw [nI_clamp hj]
  funext i
  by_cases q : i = j
  · rw [q, pk_us, va_up_self]
  · rw [pk_un q, va_up_ne g v q]
theorem upd_W (g : Nat → Int32) {j : Nat} (hj : j < 2 ^ 31) (v : Int32) : upd g (nI j).toNatClampNeg v = va_up g j v := by
  rw [nI_clamp hj]
  funext i
  by_cases q : i = j
  · rw [q, pk_us, va_up_self]
  · rw [pk_un q, va_up_ne g v q]
theorem isF_yes {n f : Nat} (h : f < n) (hn : n ≤ 4) : isF (nI n) (nI f) = 1 := by
  unfold isF
  rw [if_neg (nI_pos (by omega)), if_neg (nI_ge h (by omega))]
theorem d_Mo_function_0 : decode c_Mo_function 0 = .ok (.iload_n 1, 1) := by decide +kernel
theorem d_Mo_function_1 : decode c_Mo_function 1 = .ok (.ifCond .lt 8, 3) := by decide +kernel
theorem d_Mo_function_4 : decode c_Mo_function 4 = .ok (.iload_n 1, 1) := by decide +kernel
theorem d_Mo_function_5 : decode c_Mo_function 5 = .ok (.iconst 3, 1) := by decide +kernel
theorem d_Mo_function_6 : decode c_Mo_function 6 = .ok (.if_icmp .le 5, 3) := by decide +kernel
theorem d_Mo_function_9 : decode c_Mo_function 9 = .ok (.iconst (-1), 1) := by decide +kernel
theorem d_Mo_function_10 : decode c_Mo_function 10 = .ok (.ireturn, 1) := by decide +kernel
set_option maxRecDepth 100000 in
set_option maxHeartbeats 4000000 in
/-- function(n), n wrong -/
theorem g_Mo_function_bad (l : Launch) (G : va_G) (k : Nat → ClassId) (h0 sz : Nat) (ma : Nat → Nat) (iv : Nat → Int32) (co : Int64) (nf : Nat) (tk ct : Nat → Nat) (wd : Nat → Int32) (n : Int32) (hn : n < 0 ∨ ¬ n ≤ 3) : CI l y_Mo_function c_Mo_function 2 .int { frames := 1, cells := 0, slots := 0, locals := 20 } [.ref h0, .int n] G k sz [(h0, .inr (8, moL ma (va_up iv 0 (nI nf)) co)), ((ma 0), .inl (k 0, 4, .inl (fun i => nI (tk i)))), ((ma 1), .inl (k 0, 800, .inl wd)), ((ma 2), .inl (k 0, 4, .inl (fun i => nI (ct i))))] (fun (r : Int32) (u : Unit) => r = -1) (fun u => [(h0, .inr (8, moL ma (va_up iv 0 (nI nf)) co)), ((ma 0), .inl (k 0, 4, .inl (fun i => nI (tk i)))), ((ma 1), .inl (k 0, 800, .inl wd)), ((ma 2), .inl (k 0, 4, .inl (fun i => nI (ct i))))]) 0 0 := by
  refine met_start (by decide) (Nat.le_of_ble_eq_true rfl) ?_
  intro p e s m below meth c C K hA hsz S ls hl
  generalize va_A [(h0, .inr (8, moL ma (va_up iv 0 (nI nf)) co)), ((ma 0), .inl (k 0, 4, .inl (fun i => nI (tk i)))), ((ma 1), .inl (k 0, 800, .inl wd)), ((ma 2), .inl (k 0, 4, .inl (fun i => nI (ct i))))] sz = A at hA S ⊢
  have hx := C.1
  have hb := C.2.1
  have hl : lv_has ls 2 [(0, .ref h0), (1, .int n)] := hl
  refine lv_iload_n hx hb d_Mo_function_0 rfl (lv_at hl 1 rfl) ?_
  refine lv_if_lt (tgt := 9) hx hb d_Mo_function_1 (by decide) (fun hc1 => ?_) (fun hc1 => ?_)
  · refine lv_iconst (v := (-1)) hx hb d_Mo_function_9 (by decide) ?_
    exact r_iret C K rfl () rfl (S.sub [0, 1, 2, 3] (by decide) rfl) d_Mo_function_10 (Nat.le_of_ble_eq_true rfl) (Nat.le_of_ble_eq_true rfl)
  · refine lv_iload_n hx hb d_Mo_function_4 rfl (lv_at hl 1 rfl) ?_
    refine lv_iconst (v := 3) hx hb d_Mo_function_5 (by decide) ?_
    refine lv_icmp_le (tgt := 11) hx hb d_Mo_function_6 (by decide) (fun hq => absurd hq (hn.resolve_left hc1)) (fun _ => ?_)
    refine lv_iconst (v := (-1)) hx hb d_Mo_function_9 (by decide) ?_
    exact r_iret C K rfl () rfl (S.sub [0, 1, 2, 3] (by decide) rfl) d_Mo_function_10 (Nat.le_of_ble_eq_true rfl) (Nat.le_of_ble_eq_true rfl)
theorem d_Mo_function_11 : decode c_Mo_function 11 = .ok (.aload_n 0, 1) := by decide +kernel
theorem d_Mo_function_12 : decode c_Mo_function 12 = .ok (.getfield 111, 3) := by decide +kernel
theorem d_Mo_function_15 : decode c_Mo_function 15 = .ok (.iconst 4, 1) := by decide +kernel
theorem d_Mo_function_16 : decode c_Mo_function 16 = .ok (.if_icmp .ne 6, 3) := by decide +kernel
theorem d_Mo_function_19 : decode c_Mo_function 19 = .ok (.bipush (-3), 2) := by decide +kernel
theorem d_Mo_function_21 : decode c_Mo_function 21 = .ok (.ireturn, 1) := by decide +kernel
set_option maxRecDepth 100000 in
set_option maxHeartbeats 4000000 in
/-- function(q), full -/
theorem g_Mo_function_full (l : Launch) (G : va_G) (k : Nat → ClassId) (h0 sz : Nat) (ma : Nat → Nat) (iv : Nat → Int32) (co : Int64) (nf : Nat) (tk ct : Nat → Nat) (wd : Nat → Int32) (q : Nat) (h3 : q ≤ 3) (hf : nf = 4) : CI l y_Mo_function c_Mo_function 2 .int { frames := 1, cells := 0, slots := 0, locals := 20 } [.ref h0, .int (nI q)] G k sz [(h0, .inr (8, moL ma (va_up iv 0 (nI nf)) co)), ((ma 0), .inl (k 0, 4, .inl (fun i => nI (tk i)))), ((ma 1), .inl (k 0, 800, .inl wd)), ((ma 2), .inl (k 0, 4, .inl (fun i => nI (ct i))))] (fun (r : Int32) (u : Unit) => r = -3) (fun u => [(h0, .inr (8, moL ma (va_up iv 0 (nI nf)) co)), ((ma 0), .inl (k 0, 4, .inl (fun i => nI (tk i)))), ((ma 1), .inl (k 0, 800, .inl wd)), ((ma 2), .inl (k 0, 4, .inl (fun i => nI (ct i))))]) 0 0 := by
  refine met_start (by decide) (Nat.le_of_ble_eq_true rfl) ?_
  intro p e s m below meth c C K hA hsz S ls hl
  generalize va_A [(h0, .inr (8, moL ma (va_up iv 0 (nI nf)) co)), ((ma 0), .inl (k 0, 4, .inl (fun i => nI (tk i)))), ((ma 1), .inl (k 0, 800, .inl wd)), ((ma 2), .inl (k 0, 4, .inl (fun i => nI (ct i))))] sz = A at hA S ⊢
  have hx := C.1
  have hb := C.2.1
  have hl : lv_has ls 2 [(0, .ref h0), (1, .int (nI q))] := hl
  refine lv_iload_n hx hb d_Mo_function_0 rfl (lv_at hl 1 rfl) ?_
  refine lv_if_lt (tgt := 9) hx hb d_Mo_function_1 (by decide) (fun hq => absurd hq (nI_pos (by omega))) (fun _ => ?_)
  refine lv_iload_n hx hb d_Mo_function_4 rfl (lv_at hl 1 rfl) ?_
  refine lv_iconst (v := 3) hx hb d_Mo_function_5 (by decide) ?_
  refine lv_icmp_le (tgt := 11) hx hb d_Mo_function_6 (by decide) (fun _ => ?_) (fun hq => absurd (show nI q ≤ nI 3 from nI_le h3 (by omega)) hq)
  refine lv_aload_n hx hb d_Mo_function_11 rfl (lv_at hl 0 rfl) ?_
  refine r_get C K S 0 rfl rfl clOk_Mo 0 (by decide) wf_Mo_111 (v := .int (nI nf)) rfl d_Mo_function_12 ?_
  refine lv_iconst (v := 4) hx hb d_Mo_function_15 (by decide) ?_
  refine lv_icmp_ne (tgt := 22) hx hb d_Mo_function_16 (by decide) (fun hq => absurd (by rw [hf]; rfl) hq) (fun _ => ?_)
  refine lv_bipush (v := (-3)) hx hb d_Mo_function_19 (by decide) ?_
  exact r_iret C K rfl () rfl (S.sub [0, 1, 2, 3] (by decide) rfl) d_Mo_function_21 (Nat.le_of_ble_eq_true rfl) (Nat.le_of_ble_eq_true rfl)
theorem d_Mo_function_22 : decode c_Mo_function 22 = .ok (.aload_n 0, 1) := by decide +kernel
theorem d_Mo_function_23 : decode c_Mo_function 23 = .ok (.getfield 9, 3) := by decide +kernel
theorem d_Mo_function_26 : decode c_Mo_function 26 = .ok (.aload_n 0, 1) := by decide +kernel
theorem d_Mo_function_27 : decode c_Mo_function 27 = .ok (.getfield 111, 3) := by decide +kernel
theorem d_Mo_function_30 : decode c_Mo_function 30 = .ok (.iload_n 1, 1) := by decide +kernel
theorem d_Mo_function_31 : decode c_Mo_function 31 = .ok (.iastore, 1) := by decide +kernel
theorem d_Mo_function_32 : decode c_Mo_function 32 = .ok (.aload_n 0, 1) := by decide +kernel
theorem d_Mo_function_33 : decode c_Mo_function 33 = .ok (.getfield 16, 3) := by decide +kernel
theorem d_Mo_function_36 : decode c_Mo_function 36 = .ok (.aload_n 0, 1) := by decide +kernel
theorem d_Mo_function_37 : decode c_Mo_function 37 = .ok (.getfield 111, 3) := by decide +kernel
theorem d_Mo_function_40 : decode c_Mo_function 40 = .ok (.iconst 0, 1) := by decide +kernel
theorem d_Mo_function_41 : decode c_Mo_function 41 = .ok (.iastore, 1) := by decide +kernel
theorem d_Mo_function_42 : decode c_Mo_function 42 = .ok (.aload_n 0, 1) := by decide +kernel
theorem d_Mo_function_43 : decode c_Mo_function 43 = .ok (.dup, 1) := by decide +kernel
theorem d_Mo_function_44 : decode c_Mo_function 44 = .ok (.getfield 111, 3) := by decide +kernel
theorem d_Mo_function_47 : decode c_Mo_function 47 = .ok (.iconst 1, 1) := by decide +kernel
theorem d_Mo_function_48 : decode c_Mo_function 48 = .ok (.iadd, 1) := by decide +kernel
theorem d_Mo_function_49 : decode c_Mo_function 49 = .ok (.putfield 111, 3) := by decide +kernel
theorem d_Mo_function_52 : decode c_Mo_function 52 = .ok (.aload_n 0, 1) := by decide +kernel
theorem d_Mo_function_53 : decode c_Mo_function 53 = .ok (.getfield 111, 3) := by decide +kernel
theorem d_Mo_function_56 : decode c_Mo_function 56 = .ok (.iconst 1, 1) := by decide +kernel
theorem d_Mo_function_57 : decode c_Mo_function 57 = .ok (.isub, 1) := by decide +kernel
theorem d_Mo_function_58 : decode c_Mo_function 58 = .ok (.ireturn, 1) := by decide +kernel
set_option maxRecDepth 100000 in
set_option maxHeartbeats 4000000 in
/-- function(q): one more -/
theorem g_Mo_function_ok (l : Launch) (G : va_G) (k : Nat → ClassId) (h0 sz : Nat) (ma : Nat → Nat) (iv : Nat → Int32) (co : Int64) (nf : Nat) (tk ct : Nat → Nat) (wd : Nat → Int32) (q : Nat) (h3 : q ≤ 3) (hf : nf < 4) : CI l y_Mo_function c_Mo_function 2 .int { frames := 1, cells := 0, slots := 0, locals := 20 } [.ref h0, .int (nI q)] G k sz [(h0, .inr (8, moL ma (va_up iv 0 (nI nf)) co)), ((ma 0), .inl (k 0, 4, .inl (fun i => nI (tk i)))), ((ma 1), .inl (k 0, 800, .inl wd)), ((ma 2), .inl (k 0, 4, .inl (fun i => nI (ct i))))] (fun (r : Int32) (u : Unit) => r = nI nf) (fun u => [(h0, .inr (8, moL ma (va_up iv 0 (nI (nf + 1))) co)), ((ma 0), .inl (k 0, 4, .inl (fun i => nI ((va_up tk nf q) i)))), ((ma 1), .inl (k 0, 800, .inl wd)), ((ma 2), .inl (k 0, 4, .inl (fun i => nI ((va_up ct nf 0) i))))]) 0 0 := by
  refine met_start (by decide) (Nat.le_of_ble_eq_true rfl) ?_
  intro p e s m below meth c C K hA hsz S ls hl
  generalize va_A [(h0, .inr (8, moL ma (va_up iv 0 (nI nf)) co)), ((ma 0), .inl (k 0, 4, .inl (fun i => nI (tk i)))), ((ma 1), .inl (k 0, 800, .inl wd)), ((ma 2), .inl (k 0, 4, .inl (fun i => nI (ct i))))] sz = A at hA S ⊢
  have hx := C.1
  have hb := C.2.1
  have hl : lv_has ls 2 [(0, .ref h0), (1, .int (nI q))] := hl
  refine lv_iload_n hx hb d_Mo_function_0 rfl (lv_at hl 1 rfl) ?_
  refine lv_if_lt (tgt := 9) hx hb d_Mo_function_1 (by decide) (fun hq => absurd hq (nI_pos (by omega))) (fun _ => ?_)
  refine lv_iload_n hx hb d_Mo_function_4 rfl (lv_at hl 1 rfl) ?_
  refine lv_iconst (v := 3) hx hb d_Mo_function_5 (by decide) ?_
  refine lv_icmp_le (tgt := 11) hx hb d_Mo_function_6 (by decide) (fun _ => ?_) (fun hq => absurd (show nI q ≤ nI 3 from nI_le h3 (by omega)) hq)
  refine lv_aload_n hx hb d_Mo_function_11 rfl (lv_at hl 0 rfl) ?_
  refine r_get C K S 0 rfl rfl clOk_Mo 0 (by decide) wf_Mo_111 (v := .int (nI nf)) rfl d_Mo_function_12 ?_
  refine lv_iconst (v := 4) hx hb d_Mo_function_15 (by decide) ?_
  refine lv_icmp_ne (tgt := 22) hx hb d_Mo_function_16 (by decide) (fun _ => ?_) (fun hq => absurd hq (fun e9 => by have := (nI_eq (a := nf) (b := 4) (by omega) (by omega)).mp e9; omega))
  refine lv_aload_n hx hb d_Mo_function_22 rfl (lv_at hl 0 rfl) ?_
  refine r_get C K S 0 rfl rfl clOk_Mo 1 (by decide) wf_Mo_9 (v := .ref (ma 0)) rfl d_Mo_function_23 ?_
  refine lv_aload_n hx hb d_Mo_function_26 rfl (lv_at hl 0 rfl) ?_
  refine r_get C K S 0 rfl rfl clOk_Mo 0 (by decide) wf_Mo_111 (v := .int (nI nf)) rfl d_Mo_function_27 ?_
  refine lv_iload_n hx hb d_Mo_function_30 rfl (lv_at hl 1 rfl) ?_
  refine r_iast C K S 1 rfl (i := nI nf) (x := (nI q)) (vp_in_nI hf (by decide)) (f' := fun i => nI (va_up tk nf q i)) (ws' := [(h0, .inr (8, moL ma (va_up iv 0 (nI nf)) co)), ((ma 0), .inl (k 0, 4, .inl (fun i => nI (va_up tk nf q i)))), ((ma 1), .inl (k 0, 800, .inl wd)), ((ma 2), .inl (k 0, 4, .inl (fun i => nI (ct i))))]) (upd_nI tk (by omega) q) rfl d_Mo_function_31 (fun H locs S => ?_)
  refine lv_aload_n hx hb d_Mo_function_32 rfl (lv_at hl 0 rfl) ?_
  refine r_get C K S 0 rfl rfl clOk_Mo 3 (by decide) wf_Mo_16 (v := .ref (ma 2)) rfl d_Mo_function_33 ?_
  refine lv_aload_n hx hb d_Mo_function_36 rfl (lv_at hl 0 rfl) ?_
  refine r_get C K S 0 rfl rfl clOk_Mo 0 (by decide) wf_Mo_111 (v := .int (nI nf)) rfl d_Mo_function_37 ?_
  refine lv_iconst (v := 0) hx hb d_Mo_function_40 (by decide) ?_
  refine r_iast C K S 3 rfl (i := nI nf) (x := 0) (vp_in_nI hf (by decide)) (f' := fun i => nI (va_up ct nf 0 i)) (ws' := [(h0, .inr (8, moL ma (va_up iv 0 (nI nf)) co)), ((ma 0), .inl (k 0, 4, .inl (fun i => nI (va_up tk nf q i)))), ((ma 1), .inl (k 0, 800, .inl wd)), ((ma 2), .inl (k 0, 4, .inl (fun i => nI (va_up ct nf 0 i))))]) (upd_nI ct (by omega) 0) rfl d_Mo_function_41 (fun H locs S => ?_)
  refine lv_aload_n hx hb d_Mo_function_42 rfl (lv_at hl 0 rfl) ?_
  refine lv_dup hx hb d_Mo_function_43 rfl ?_
  refine r_get C K S 0 rfl rfl clOk_Mo 0 (by decide) wf_Mo_111 (v := .int (nI nf)) rfl d_Mo_function_44 ?_
  refine lv_iconst (v := 1) hx hb d_Mo_function_47 (by decide) ?_
  refine lv_iadd hx hb d_Mo_function_48 ?_
  rw [nI_1]
  refine r_put C K S 0 rfl rfl clOk_Mo 0 (by decide) wf_Mo_111 rfl (ty := .int) (v := .int (nI (nf + 1))) (by decide +kernel) rfl rfl (Nat.le_of_ble_eq_true rfl) (fs' := moL ma (va_up iv 0 (nI (nf + 1))) co) (ws' := [(h0, .inr (8, moL ma (va_up iv 0 (nI (nf + 1))) co)), ((ma 0), .inl (k 0, 4, .inl (fun i => nI (va_up tk nf q i)))), ((ma 1), .inl (k 0, 800, .inl wd)), ((ma 2), .inl (k 0, 4, .inl (fun i => nI (va_up ct nf 0 i))))]) rfl rfl d_Mo_function_49 (fun H locs S => ?_)
  refine lv_aload_n hx hb d_Mo_function_52 rfl (lv_at hl 0 rfl) ?_
  refine r_get C K S 0 rfl rfl clOk_Mo 0 (by decide) wf_Mo_111 (v := .int (nI (nf + 1))) rfl d_Mo_function_53 ?_
  refine lv_iconst (v := 1) hx hb d_Mo_function_56 (by decide) ?_
  refine lv_isub hx hb d_Mo_function_57 ?_
  rw [nI_pred]
  exact r_iret C K rfl () rfl (S.sub [0, 1, 2, 3] (by decide) rfl) d_Mo_function_58 (Nat.le_of_ble_eq_true rfl) (Nat.le_of_ble_eq_true rfl)
theorem d_Mo_word_0 : decode c_Mo_word 0 = .ok (.aload_n 0, 1) := by decide +kernel
theorem d_Mo_word_1 : decode c_Mo_word 1 = .ok (.iload_n 1, 1) := by decide +kernel
theorem d_Mo_word_2 : decode c_Mo_word 2 = .ok (.invokevirtual 114, 3) := by decide +kernel
theorem d_Mo_word_5 : decode c_Mo_word 5 = .ok (.ifCond .ne 5, 3) := by decide +kernel
theorem d_Mo_word_8 : decode c_Mo_word 8 = .ok (.iconst (-1), 1) := by decide +kernel
theorem d_Mo_word_9 : decode c_Mo_word 9 = .ok (.ireturn, 1) := by decide +kernel
set_option maxRecDepth 100000 in
set_option maxHeartbeats 4000000 in
/-- word, no such function -/
theorem g_Mo_word_bad (l : Launch) (G : va_G) (k : Nat → ClassId) (h0 sz : Nat) (ma : Nat → Nat) (iv : Nat → Int32) (co : Int64) (nf : Nat) (tk ct : Nat → Nat) (wd : Nat → Int32) (f v : Int32) (hf : isF (nI nf) f = 0) : CI l y_Mo_word c_Mo_word 3 .int { frames := 2, cells := 0, slots := 0, locals := 41 } [.ref h0, .int f, .int v] G k sz [(h0, .inr (8, moL ma (va_up iv 0 (nI nf)) co)), ((ma 0), .inl (k 0, 4, .inl (fun i => nI (tk i)))), ((ma 1), .inl (k 0, 800, .inl wd)), ((ma 2), .inl (k 0, 4, .inl (fun i => nI (ct i))))] (fun (r : Int32) (u : Unit) => r = -1) (fun u => [(h0, .inr (8, moL ma (va_up iv 0 (nI nf)) co)), ((ma 0), .inl (k 0, 4, .inl (fun i => nI (tk i)))), ((ma 1), .inl (k 0, 800, .inl wd)), ((ma 2), .inl (k 0, 4, .inl (fun i => nI (ct i))))]) 0 0 := by
  refine met_start (by decide) (Nat.le_of_ble_eq_true rfl) ?_
  intro p e s m below meth c C K hA hsz S ls hl
  generalize va_A [(h0, .inr (8, moL ma (va_up iv 0 (nI nf)) co)), ((ma 0), .inl (k 0, 4, .inl (fun i => nI (tk i)))), ((ma 1), .inl (k 0, 800, .inl wd)), ((ma 2), .inl (k 0, 4, .inl (fun i => nI (ct i))))] sz = A at hA S ⊢
  have hx := C.1
  have hb := C.2.1
  have hl : lv_has ls 3 [(0, .ref h0), (1, .int f), (2, .int v)] := hl
  refine lv_aload_n hx hb d_Mo_word_0 rfl (lv_at hl 0 rfl) ?_
  refine lv_iload_n hx hb d_Mo_word_1 rfl (lv_at hl 1 rfl) ?_
  refine r_backi (wi := [(h0, .inr (8, moL ma (va_up iv 0 (nI nf)) co))]) (wr := [((ma 0), .inl (k 0, 4, .inl (fun i => nI (tk i)))), ((ma 1), .inl (k 0, 800, .inl wd)), ((ma 2), .inl (k 0, 4, .inl (fun i => nI (ct i))))]) S hA [0] [1, 2, 3] rfl rfl (by decide) (by decide) (va_runV (As := [.int f]) (rest := []) ⟨hx, hb, C.2.2.1, C.2.2.2.1, C.2.2.2.2.1⟩ (g_Mo_isFunction l G k h0 _ ma (va_up iv 0 (nI nf)) co f) (k_virt (n := 1) C wc_Mo_isFunction rfl rfl wz_Mo wm_Mo_114 wn_Mo_isFunction ws_Mo_isFunction (by decide +kernel) ⟨(Nat.le_of_ble_eq_true rfl), (Nat.le_of_ble_eq_true rfl)⟩) (pr_nowV K S [0] (by decide) rfl 0 rfl rfl) rfl rfl hl.1 rfl (lv_room (Nat.le_of_ble_eq_true rfl)) d_Mo_word_2 ⟨(Nat.le_of_ble_eq_true rfl), (Nat.le_of_ble_eq_true rfl)⟩) (fun r3 u1 H locs hw2 S => ?_)
  have S : Sw G A s.heap _ _ [((ma 0), .inl (k 0, 4, .inl (fun i => nI (tk i)))), ((ma 1), .inl (k 0, 800, .inl wd)), ((ma 2), .inl (k 0, 4, .inl (fun i => nI (ct i)))), (h0, .inr (8, moL ma (va_up iv 0 (nI nf)) co))] := S
  have hw2 : r3 = 0 := hw2.trans hf
  subst hw2
  refine lv_if_ne (tgt := 10) hx hb d_Mo_word_5 (by decide) (fun hq => absurd (by decide) hq) (fun _ => ?_)
  refine lv_iconst (v := (-1)) hx hb d_Mo_word_8 (by decide) ?_
  exact r_iret C K rfl () rfl (S.sub [3, 0, 1, 2] (by decide) rfl) d_Mo_word_9 (Nat.le_of_ble_eq_true rfl) (Nat.le_of_ble_eq_true rfl)
theorem d_Mo_word_10 : decode c_Mo_word 10 = .ok (.aload_n 0, 1) := by decide +kernel
theorem d_Mo_word_11 : decode c_Mo_word 11 = .ok (.getfield 16, 3) := by decide +kernel
theorem d_Mo_word_14 : decode c_Mo_word 14 = .ok (.iload_n 1, 1) := by decide +kernel
theorem d_Mo_word_15 : decode c_Mo_word 15 = .ok (.iaload, 1) := by decide +kernel
theorem d_Mo_word_16 : decode c_Mo_word 16 = .ok (.sipush 200, 3) := by decide +kernel
theorem d_Mo_word_19 : decode c_Mo_word 19 = .ok (.if_icmp .ne 6, 3) := by decide +kernel
theorem d_Mo_word_22 : decode c_Mo_word 22 = .ok (.bipush (-3), 2) := by decide +kernel
theorem d_Mo_word_24 : decode c_Mo_word 24 = .ok (.ireturn, 1) := by decide +kernel
set_option maxRecDepth 100000 in
set_option maxHeartbeats 4000000 in
/-- word, full -/
theorem g_Mo_word_full (l : Launch) (G : va_G) (k : Nat → ClassId) (h0 sz : Nat) (ma : Nat → Nat) (iv : Nat → Int32) (co : Int64) (nf : Nat) (tk ct : Nat → Nat) (wd : Nat → Int32) (f : Nat) (v : Int32) (hf : f < nf) (hnf : nf ≤ 4) (hc : ct f = 200) : CI l y_Mo_word c_Mo_word 3 .int { frames := 2, cells := 0, slots := 0, locals := 41 } [.ref h0, .int (nI f), .int v] G k sz [(h0, .inr (8, moL ma (va_up iv 0 (nI nf)) co)), ((ma 0), .inl (k 0, 4, .inl (fun i => nI (tk i)))), ((ma 1), .inl (k 0, 800, .inl wd)), ((ma 2), .inl (k 0, 4, .inl (fun i => nI (ct i))))] (fun (r : Int32) (u : Unit) => r = -3) (fun u => [(h0, .inr (8, moL ma (va_up iv 0 (nI nf)) co)), ((ma 0), .inl (k 0, 4, .inl (fun i => nI (tk i)))), ((ma 1), .inl (k 0, 800, .inl wd)), ((ma 2), .inl (k 0, 4, .inl (fun i => nI (ct i))))]) 0 0 := by
  refine met_start (by decide) (Nat.le_of_ble_eq_true rfl) ?_
  intro p e s m below meth c C K hA hsz S ls hl
  generalize va_A [(h0, .inr (8, moL ma (va_up iv 0 (nI nf)) co)), ((ma 0), .inl (k 0, 4, .inl (fun i => nI (tk i)))), ((ma 1), .inl (k 0, 800, .inl wd)), ((ma 2), .inl (k 0, 4, .inl (fun i => nI (ct i))))] sz = A at hA S ⊢
  have hx := C.1
  have hb := C.2.1
  have hl : lv_has ls 3 [(0, .ref h0), (1, .int (nI f)), (2, .int v)] := hl
  refine lv_aload_n hx hb d_Mo_word_0 rfl (lv_at hl 0 rfl) ?_
  refine lv_iload_n hx hb d_Mo_word_1 rfl (lv_at hl 1 rfl) ?_
  refine r_backi (wi := [(h0, .inr (8, moL ma (va_up iv 0 (nI nf)) co))]) (wr := [((ma 0), .inl (k 0, 4, .inl (fun i => nI (tk i)))), ((ma 1), .inl (k 0, 800, .inl wd)), ((ma 2), .inl (k 0, 4, .inl (fun i => nI (ct i))))]) S hA [0] [1, 2, 3] rfl rfl (by decide) (by decide) (va_runV (As := [.int (nI f)]) (rest := []) ⟨hx, hb, C.2.2.1, C.2.2.2.1, C.2.2.2.2.1⟩ (g_Mo_isFunction l G k h0 _ ma (va_up iv 0 (nI nf)) co (nI f)) (k_virt (n := 1) C wc_Mo_isFunction rfl rfl wz_Mo wm_Mo_114 wn_Mo_isFunction ws_Mo_isFunction (by decide +kernel) ⟨(Nat.le_of_ble_eq_true rfl), (Nat.le_of_ble_eq_true rfl)⟩) (pr_nowV K S [0] (by decide) rfl 0 rfl rfl) rfl rfl hl.1 rfl (lv_room (Nat.le_of_ble_eq_true rfl)) d_Mo_word_2 ⟨(Nat.le_of_ble_eq_true rfl), (Nat.le_of_ble_eq_true rfl)⟩) (fun r3 u1 H locs hw2 S => ?_)
  have S : Sw G A s.heap _ _ [((ma 0), .inl (k 0, 4, .inl (fun i => nI (tk i)))), ((ma 1), .inl (k 0, 800, .inl wd)), ((ma 2), .inl (k 0, 4, .inl (fun i => nI (ct i)))), (h0, .inr (8, moL ma (va_up iv 0 (nI nf)) co))] := S
  have hw2 : r3 = 1 := hw2.trans (isF_yes hf hnf)
  subst hw2
  refine lv_if_ne (tgt := 10) hx hb d_Mo_word_5 (by decide) (fun _ => ?_) (fun hq => absurd hq (by decide))
  refine lv_aload_n hx hb d_Mo_word_10 rfl (lv_at hl 0 rfl) ?_
  refine r_get C K S 3 rfl rfl clOk_Mo 3 (by decide) wf_Mo_16 (v := .ref (ma 2)) rfl d_Mo_word_11 ?_
  refine lv_iload_n hx hb d_Mo_word_14 rfl (lv_at hl 1 rfl) ?_
  refine r_iald C K S 2 rfl (i := (nI f)) (vp_in_nI (by omega) (by decide)) (v := (nI (ct f))) (by rw [nI_clamp (by omega)]) d_Mo_word_15 ?_
  refine lv_sipush (v := 200) hx hb d_Mo_word_16 (by decide) ?_
  refine lv_icmp_ne (tgt := 25) hx hb d_Mo_word_19 (by decide) (fun hq => absurd (by rw [hc]; rfl) hq) (fun _ => ?_)
  refine lv_bipush (v := (-3)) hx hb d_Mo_word_22 (by decide) ?_
  exact r_iret C K rfl () rfl (S.sub [3, 0, 1, 2] (by decide) rfl) d_Mo_word_24 (Nat.le_of_ble_eq_true rfl) (Nat.le_of_ble_eq_true rfl)
theorem d_Mo_word_25 : decode c_Mo_word 25 = .ok (.aload_n 0, 1) := by decide +kernel
theorem d_Mo_word_26 : decode c_Mo_word 26 = .ok (.getfield 13, 3) := by decide +kernel
theorem d_Mo_word_29 : decode c_Mo_word 29 = .ok (.sipush 200, 3) := by decide +kernel
theorem d_Mo_word_32 : decode c_Mo_word 32 = .ok (.iload_n 1, 1) := by decide +kernel
theorem d_Mo_word_33 : decode c_Mo_word 33 = .ok (.imul, 1) := by decide +kernel
theorem d_Mo_word_34 : decode c_Mo_word 34 = .ok (.aload_n 0, 1) := by decide +kernel
theorem d_Mo_word_35 : decode c_Mo_word 35 = .ok (.getfield 16, 3) := by decide +kernel
theorem d_Mo_word_38 : decode c_Mo_word 38 = .ok (.iload_n 1, 1) := by decide +kernel
theorem d_Mo_word_39 : decode c_Mo_word 39 = .ok (.iaload, 1) := by decide +kernel
theorem d_Mo_word_40 : decode c_Mo_word 40 = .ok (.iadd, 1) := by decide +kernel
theorem d_Mo_word_41 : decode c_Mo_word 41 = .ok (.iload_n 2, 1) := by decide +kernel
theorem d_Mo_word_42 : decode c_Mo_word 42 = .ok (.iastore, 1) := by decide +kernel
theorem d_Mo_word_43 : decode c_Mo_word 43 = .ok (.aload_n 0, 1) := by decide +kernel
theorem d_Mo_word_44 : decode c_Mo_word 44 = .ok (.getfield 16, 3) := by decide +kernel
theorem d_Mo_word_47 : decode c_Mo_word 47 = .ok (.iload_n 1, 1) := by decide +kernel
theorem d_Mo_word_48 : decode c_Mo_word 48 = .ok (.dup2, 1) := by decide +kernel
theorem d_Mo_word_49 : decode c_Mo_word 49 = .ok (.iaload, 1) := by decide +kernel
theorem d_Mo_word_50 : decode c_Mo_word 50 = .ok (.iconst 1, 1) := by decide +kernel
theorem d_Mo_word_51 : decode c_Mo_word 51 = .ok (.iadd, 1) := by decide +kernel
theorem d_Mo_word_52 : decode c_Mo_word 52 = .ok (.iastore, 1) := by decide +kernel
theorem d_Mo_word_53 : decode c_Mo_word 53 = .ok (.aload_n 0, 1) := by decide +kernel
theorem d_Mo_word_54 : decode c_Mo_word 54 = .ok (.getfield 16, 3) := by decide +kernel
theorem d_Mo_word_57 : decode c_Mo_word 57 = .ok (.iload_n 1, 1) := by decide +kernel
theorem d_Mo_word_58 : decode c_Mo_word 58 = .ok (.iaload, 1) := by decide +kernel
theorem d_Mo_word_59 : decode c_Mo_word 59 = .ok (.ireturn, 1) := by decide +kernel
set_option maxRecDepth 100000 in
set_option maxHeartbeats 4000000 in
/-- word: one more -/
theorem g_Mo_word_ok (l : Launch) (G : va_G) (k : Nat → ClassId) (h0 sz : Nat) (ma : Nat → Nat) (iv : Nat → Int32) (co : Int64) (nf : Nat) (tk ct : Nat → Nat) (wd : Nat → Int32) (f : Nat) (v : Int32) (hf : f < nf) (hnf : nf ≤ 4) (hc : ct f < 200) : CI l y_Mo_word c_Mo_word 3 .int { frames := 2, cells := 0, slots := 0, locals := 41 } [.ref h0, .int (nI f), .int v] G k sz [(h0, .inr (8, moL ma (va_up iv 0 (nI nf)) co)), ((ma 0), .inl (k 0, 4, .inl (fun i => nI (tk i)))), ((ma 1), .inl (k 0, 800, .inl wd)), ((ma 2), .inl (k 0, 4, .inl (fun i => nI (ct i))))] (fun (r : Int32) (u : Unit) => r = nI (ct f + 1)) (fun u => [(h0, .inr (8, moL ma (va_up iv 0 (nI nf)) co)), ((ma 0), .inl (k 0, 4, .inl (fun i => nI (tk i)))), ((ma 1), .inl (k 0, 800, .inl (va_up wd (200 * f + ct f) v))), ((ma 2), .inl (k 0, 4, .inl (fun i => nI ((va_up ct f (ct f + 1)) i))))]) 0 0 := by
  refine met_start (by decide) (Nat.le_of_ble_eq_true rfl) ?_
  intro p e s m below meth c C K hA hsz S ls hl
  generalize va_A [(h0, .inr (8, moL ma (va_up iv 0 (nI nf)) co)), ((ma 0), .inl (k 0, 4, .inl (fun i => nI (tk i)))), ((ma 1), .inl (k 0, 800, .inl wd)), ((ma 2), .inl (k 0, 4, .inl (fun i => nI (ct i))))] sz = A at hA S ⊢
  have hx := C.1
  have hb := C.2.1
  have hl : lv_has ls 3 [(0, .ref h0), (1, .int (nI f)), (2, .int v)] := hl
  refine lv_aload_n hx hb d_Mo_word_0 rfl (lv_at hl 0 rfl) ?_
  refine lv_iload_n hx hb d_Mo_word_1 rfl (lv_at hl 1 rfl) ?_
  refine r_backi (wi := [(h0, .inr (8, moL ma (va_up iv 0 (nI nf)) co))]) (wr := [((ma 0), .inl (k 0, 4, .inl (fun i => nI (tk i)))), ((ma 1), .inl (k 0, 800, .inl wd)), ((ma 2), .inl (k 0, 4, .inl (fun i => nI (ct i))))]) S hA [0] [1, 2, 3] rfl rfl (by decide) (by decide) (va_runV (As := [.int (nI f)]) (rest := []) ⟨hx, hb, C.2.2.1, C.2.2.2.1, C.2.2.2.2.1⟩ (g_Mo_isFunction l G k h0 _ ma (va_up iv 0 (nI nf)) co (nI f)) (k_virt (n := 1) C wc_Mo_isFunction rfl rfl wz_Mo wm_Mo_114 wn_Mo_isFunction ws_Mo_isFunction (by decide +kernel) ⟨(Nat.le_of_ble_eq_true rfl), (Nat.le_of_ble_eq_true rfl)⟩) (pr_nowV K S [0] (by decide) rfl 0 rfl rfl) rfl rfl hl.1 rfl (lv_room (Nat.le_of_ble_eq_true rfl)) d_Mo_word_2 ⟨(Nat.le_of_ble_eq_true rfl), (Nat.le_of_ble_eq_true rfl)⟩) (fun r3 u1 H locs hw2 S => ?_)
  have S : Sw G A s.heap _ _ [((ma 0), .inl (k 0, 4, .inl (fun i => nI (tk i)))), ((ma 1), .inl (k 0, 800, .inl wd)), ((ma 2), .inl (k 0, 4, .inl (fun i => nI (ct i)))), (h0, .inr (8, moL ma (va_up iv 0 (nI nf)) co))] := S
  have hw2 : r3 = 1 := hw2.trans (isF_yes hf hnf)
  subst hw2
  refine lv_if_ne (tgt := 10) hx hb d_Mo_word_5 (by decide) (fun _ => ?_) (fun hq => absurd hq (by decide))
  refine lv_aload_n hx hb d_Mo_word_10 rfl (lv_at hl 0 rfl) ?_
  refine r_get C K S 3 rfl rfl clOk_Mo 3 (by decide) wf_Mo_16 (v := .ref (ma 2)) rfl d_Mo_word_11 ?_
  refine lv_iload_n hx hb d_Mo_word_14 rfl (lv_at hl 1 rfl) ?_
  refine r_iald C K S 2 rfl (i := (nI f)) (vp_in_nI (by omega) (by decide)) (v := (nI (ct f))) (by rw [nI_clamp (by omega)]) d_Mo_word_15 ?_
  refine lv_sipush (v := 200) hx hb d_Mo_word_16 (by decide) ?_
  refine lv_icmp_ne (tgt := 25) hx hb d_Mo_word_19 (by decide) (fun _ => ?_) (fun hq => absurd hq (fun e9 => by have := (nI_eq (a := ct f) (b := 200) (by omega) (by omega)).mp e9; omega))
  refine lv_aload_n hx hb d_Mo_word_25 rfl (lv_at hl 0 rfl) ?_
  refine r_get C K S 3 rfl rfl clOk_Mo 2 (by decide) wf_Mo_13 (v := .ref (ma 1)) rfl d_Mo_word_26 ?_
  refine lv_sipush (v := 200) hx hb d_Mo_word_29 (by decide) ?_
  refine lv_iload_n hx hb d_Mo_word_32 rfl (lv_at hl 1 rfl) ?_
  refine lv_imul hx hb d_Mo_word_33 ?_
  rw [show (200 : Int32) * nI f = nI (200 * f) from pk_mul 200 f]
  refine lv_aload_n hx hb d_Mo_word_34 rfl (lv_at hl 0 rfl) ?_
  refine r_get C K S 3 rfl rfl clOk_Mo 3 (by decide) wf_Mo_16 (v := .ref (ma 2)) rfl d_Mo_word_35 ?_
  refine lv_iload_n hx hb d_Mo_word_38 rfl (lv_at hl 1 rfl) ?_
  refine r_iald C K S 2 rfl (i := (nI f)) (vp_in_nI (by omega) (by decide)) (v := (nI (ct f))) (by rw [nI_clamp (by omega)]) d_Mo_word_39 ?_
  refine lv_iadd hx hb d_Mo_word_40 ?_
  rw [nI_add]
  refine lv_iload_n hx hb d_Mo_word_41 rfl (lv_at hl 2 rfl) ?_
  refine r_iast C K S 1 rfl (i := nI (200 * f + ct f)) (x := v) (vp_in_nI (by omega) (by decide)) (f' := va_up wd (200 * f + ct f) v) (ws' := [((ma 0), .inl (k 0, 4, .inl (fun i => nI (tk i)))), ((ma 1), .inl (k 0, 800, .inl (va_up wd (200 * f + ct f) v))), ((ma 2), .inl (k 0, 4, .inl (fun i => nI (ct i)))), (h0, .inr (8, moL ma (va_up iv 0 (nI nf)) co))]) (upd_W wd (by omega) v) rfl d_Mo_word_42 (fun H locs S => ?_)
  refine lv_aload_n hx hb d_Mo_word_43 rfl (lv_at hl 0 rfl) ?_
  refine r_get C K S 3 rfl rfl clOk_Mo 3 (by decide) wf_Mo_16 (v := .ref (ma 2)) rfl d_Mo_word_44 ?_
  refine lv_iload_n hx hb d_Mo_word_47 rfl (lv_at hl 1 rfl) ?_
  refine lv_dup2_11 hx hb d_Mo_word_48 rfl rfl ?_
  refine r_iald C K S 2 rfl (i := (nI f)) (vp_in_nI (by omega) (by decide)) (v := (nI (ct f))) (by rw [nI_clamp (by omega)]) d_Mo_word_49 ?_
  refine lv_iconst (v := 1) hx hb d_Mo_word_50 (by decide) ?_
  refine lv_iadd hx hb d_Mo_word_51 ?_
  rw [nI_1]
  refine r_iast C K S 2 rfl (i := (nI f)) (x := nI (ct f + 1)) (vp_in_nI (by omega) (by decide)) (f' := fun i => nI (va_up ct f (ct f + 1) i)) (ws' := [((ma 0), .inl (k 0, 4, .inl (fun i => nI (tk i)))), ((ma 1), .inl (k 0, 800, .inl (va_up wd (200 * f + ct f) v))), ((ma 2), .inl (k 0, 4, .inl (fun i => nI (va_up ct f (ct f + 1) i)))), (h0, .inr (8, moL ma (va_up iv 0 (nI nf)) co))]) (upd_nI ct (by omega) (ct f + 1)) rfl d_Mo_word_52 (fun H locs S => ?_)
  refine lv_aload_n hx hb d_Mo_word_53 rfl (lv_at hl 0 rfl) ?_
  refine r_get C K S 3 rfl rfl clOk_Mo 3 (by decide) wf_Mo_16 (v := .ref (ma 2)) rfl d_Mo_word_54 ?_
  refine lv_iload_n hx hb d_Mo_word_57 rfl (lv_at hl 1 rfl) ?_
  refine r_iald C K S 2 rfl (i := (nI f)) (vp_in_nI (by omega) (by decide)) (v := (nI (ct f + 1))) (by rw [nI_clamp (by omega), va_up_self]) d_Mo_word_58 ?_
  exact r_iret C K rfl () rfl (S.sub [3, 0, 1, 2] (by decide) rfl) d_Mo_word_59 (Nat.le_of_ble_eq_true rfl) (Nat.le_of_ble_eq_true rfl)
theorem d_Mo_cut_0 : decode c_Mo_cut 0 = .ok (.aload_n 0, 1) := by decide +kernel
theorem d_Mo_cut_1 : decode c_Mo_cut 1 = .ok (.iload_n 1, 1) := by decide +kernel
theorem d_Mo_cut_2 : decode c_Mo_cut 2 = .ok (.invokevirtual 114, 3) := by decide +kernel
theorem d_Mo_cut_5 : decode c_Mo_cut 5 = .ok (.ifCond .eq 17, 3) := by decide +kernel
theorem d_Mo_cut_22 : decode c_Mo_cut 22 = .ok (.iconst 0, 1) := by decide +kernel
theorem d_Mo_cut_23 : decode c_Mo_cut 23 = .ok (.ireturn, 1) := by decide +kernel
set_option maxRecDepth 100000 in
set_option maxHeartbeats 4000000 in
/-- cut, no such function -/
theorem g_Mo_cut_bad (l : Launch) (G : va_G) (k : Nat → ClassId) (h0 sz : Nat) (ma : Nat → Nat) (iv : Nat → Int32) (co : Int64) (nf : Nat) (tk ct : Nat → Nat) (wd : Nat → Int32) (f n : Int32) (hf : isF (nI nf) f = 0) : CI l y_Mo_cut c_Mo_cut 3 .boolean { frames := 2, cells := 0, slots := 0, locals := 41 } [.ref h0, .int f, .int n] G k sz [(h0, .inr (8, moL ma (va_up iv 0 (nI nf)) co)), ((ma 0), .inl (k 0, 4, .inl (fun i => nI (tk i)))), ((ma 1), .inl (k 0, 800, .inl wd)), ((ma 2), .inl (k 0, 4, .inl (fun i => nI (ct i))))] (fun (r : Int32) (u : Unit) => r = 0) (fun u => [(h0, .inr (8, moL ma (va_up iv 0 (nI nf)) co)), ((ma 0), .inl (k 0, 4, .inl (fun i => nI (tk i)))), ((ma 1), .inl (k 0, 800, .inl wd)), ((ma 2), .inl (k 0, 4, .inl (fun i => nI (ct i))))]) 0 0 := by
  refine met_start (by decide) (Nat.le_of_ble_eq_true rfl) ?_
  intro p e s m below meth c C K hA hsz S ls hl
  generalize va_A [(h0, .inr (8, moL ma (va_up iv 0 (nI nf)) co)), ((ma 0), .inl (k 0, 4, .inl (fun i => nI (tk i)))), ((ma 1), .inl (k 0, 800, .inl wd)), ((ma 2), .inl (k 0, 4, .inl (fun i => nI (ct i))))] sz = A at hA S ⊢
  have hx := C.1
  have hb := C.2.1
  have hl : lv_has ls 3 [(0, .ref h0), (1, .int f), (2, .int n)] := hl
  refine lv_aload_n hx hb d_Mo_cut_0 rfl (lv_at hl 0 rfl) ?_
  refine lv_iload_n hx hb d_Mo_cut_1 rfl (lv_at hl 1 rfl) ?_
  refine r_backi (wi := [(h0, .inr (8, moL ma (va_up iv 0 (nI nf)) co))]) (wr := [((ma 0), .inl (k 0, 4, .inl (fun i => nI (tk i)))), ((ma 1), .inl (k 0, 800, .inl wd)), ((ma 2), .inl (k 0, 4, .inl (fun i => nI (ct i))))]) S hA [0] [1, 2, 3] rfl rfl (by decide) (by decide) (va_runV (As := [.int f]) (rest := []) ⟨hx, hb, C.2.2.1, C.2.2.2.1, C.2.2.2.2.1⟩ (g_Mo_isFunction l G k h0 _ ma (va_up iv 0 (nI nf)) co f) (k_virt (n := 1) C wc_Mo_isFunction rfl rfl wz_Mo wm_Mo_114 wn_Mo_isFunction ws_Mo_isFunction (by decide +kernel) ⟨(Nat.le_of_ble_eq_true rfl), (Nat.le_of_ble_eq_true rfl)⟩) (pr_nowV K S [0] (by decide) rfl 0 rfl rfl) rfl rfl hl.1 rfl (lv_room (Nat.le_of_ble_eq_true rfl)) d_Mo_cut_2 ⟨(Nat.le_of_ble_eq_true rfl), (Nat.le_of_ble_eq_true rfl)⟩) (fun r3 u1 H locs hw2 S => ?_)
  have S : Sw G A s.heap _ _ [((ma 0), .inl (k 0, 4, .inl (fun i => nI (tk i)))), ((ma 1), .inl (k 0, 800, .inl wd)), ((ma 2), .inl (k 0, 4, .inl (fun i => nI (ct i)))), (h0, .inr (8, moL ma (va_up iv 0 (nI nf)) co))] := S
  have hw2 : r3 = 0 := hw2.trans hf
  subst hw2
  refine lv_if_eq (tgt := 22) hx hb d_Mo_cut_5 (by decide) (fun _ => ?_) (fun hq => absurd (by decide) hq)
  refine lv_iconst (v := 0) hx hb d_Mo_cut_22 (by decide) ?_
  exact r_iret C K rfl () rfl (S.sub [3, 0, 1, 2] (by decide) rfl) d_Mo_cut_23 (Nat.le_of_ble_eq_true rfl) (Nat.le_of_ble_eq_true rfl)
theorem d_Mo_cut_8 : decode c_Mo_cut 8 = .ok (.iload_n 2, 1) := by decide +kernel
theorem d_Mo_cut_9 : decode c_Mo_cut 9 = .ok (.ifCond .lt 13, 3) := by decide +kernel
theorem d_Mo_cut_12 : decode c_Mo_cut 12 = .ok (.iload_n 2, 1) := by decide +kernel
theorem d_Mo_cut_13 : decode c_Mo_cut 13 = .ok (.aload_n 0, 1) := by decide +kernel
theorem d_Mo_cut_14 : decode c_Mo_cut 14 = .ok (.getfield 16, 3) := by decide +kernel
theorem d_Mo_cut_17 : decode c_Mo_cut 17 = .ok (.iload_n 1, 1) := by decide +kernel
theorem d_Mo_cut_18 : decode c_Mo_cut 18 = .ok (.iaload, 1) := by decide +kernel
theorem d_Mo_cut_19 : decode c_Mo_cut 19 = .ok (.if_icmp .le 5, 3) := by decide +kernel
set_option maxRecDepth 100000 in
set_option maxHeartbeats 4000000 in
/-- cut, n wrong -/
theorem g_Mo_cut_no (l : Launch) (G : va_G) (k : Nat → ClassId) (h0 sz : Nat) (ma : Nat → Nat) (iv : Nat → Int32) (co : Int64) (nf : Nat) (tk ct : Nat → Nat) (wd : Nat → Int32) (f : Nat) (n : Int32) (hf : f < nf) (hnf : nf ≤ 4) (hn : n < 0 ∨ ¬ n ≤ nI (ct f)) : CI l y_Mo_cut c_Mo_cut 3 .boolean { frames := 2, cells := 0, slots := 0, locals := 41 } [.ref h0, .int (nI f), .int n] G k sz [(h0, .inr (8, moL ma (va_up iv 0 (nI nf)) co)), ((ma 0), .inl (k 0, 4, .inl (fun i => nI (tk i)))), ((ma 1), .inl (k 0, 800, .inl wd)), ((ma 2), .inl (k 0, 4, .inl (fun i => nI (ct i))))] (fun (r : Int32) (u : Unit) => r = 0) (fun u => [(h0, .inr (8, moL ma (va_up iv 0 (nI nf)) co)), ((ma 0), .inl (k 0, 4, .inl (fun i => nI (tk i)))), ((ma 1), .inl (k 0, 800, .inl wd)), ((ma 2), .inl (k 0, 4, .inl (fun i => nI (ct i))))]) 0 0 := by
  refine met_start (by decide) (Nat.le_of_ble_eq_true rfl) ?_
  intro p e s m below meth c C K hA hsz S ls hl
  generalize va_A [(h0, .inr (8, moL ma (va_up iv 0 (nI nf)) co)), ((ma 0), .inl (k 0, 4, .inl (fun i => nI (tk i)))), ((ma 1), .inl (k 0, 800, .inl wd)), ((ma 2), .inl (k 0, 4, .inl (fun i => nI (ct i))))] sz = A at hA S ⊢
  have hx := C.1
  have hb := C.2.1
  have hl : lv_has ls 3 [(0, .ref h0), (1, .int (nI f)), (2, .int n)] := hl
  refine lv_aload_n hx hb d_Mo_cut_0 rfl (lv_at hl 0 rfl) ?_
  refine lv_iload_n hx hb d_Mo_cut_1 rfl (lv_at hl 1 rfl) ?_
  refine r_backi (wi := [(h0, .inr (8, moL ma (va_up iv 0 (nI nf)) co))]) (wr := [((ma 0), .inl (k 0, 4, .inl (fun i => nI (tk i)))), ((ma 1), .inl (k 0, 800, .inl wd)), ((ma 2), .inl (k 0, 4, .inl (fun i => nI (ct i))))]) S hA [0] [1, 2, 3] rfl rfl (by decide) (by decide) (va_runV (As := [.int (nI f)]) (rest := []) ⟨hx, hb, C.2.2.1, C.2.2.2.1, C.2.2.2.2.1⟩ (g_Mo_isFunction l G k h0 _ ma (va_up iv 0 (nI nf)) co (nI f)) (k_virt (n := 1) C wc_Mo_isFunction rfl rfl wz_Mo wm_Mo_114 wn_Mo_isFunction ws_Mo_isFunction (by decide +kernel) ⟨(Nat.le_of_ble_eq_true rfl), (Nat.le_of_ble_eq_true rfl)⟩) (pr_nowV K S [0] (by decide) rfl 0 rfl rfl) rfl rfl hl.1 rfl (lv_room (Nat.le_of_ble_eq_true rfl)) d_Mo_cut_2 ⟨(Nat.le_of_ble_eq_true rfl), (Nat.le_of_ble_eq_true rfl)⟩) (fun r3 u1 H locs hw2 S => ?_)
  have S : Sw G A s.heap _ _ [((ma 0), .inl (k 0, 4, .inl (fun i => nI (tk i)))), ((ma 1), .inl (k 0, 800, .inl wd)), ((ma 2), .inl (k 0, 4, .inl (fun i => nI (ct i)))), (h0, .inr (8, moL ma (va_up iv 0 (nI nf)) co))] := S
  have hw2 : r3 = 1 := hw2.trans (isF_yes hf hnf)
  subst hw2
  refine lv_if_eq (tgt := 22) hx hb d_Mo_cut_5 (by decide) (fun hq => absurd hq (by decide)) (fun _ => ?_)
  refine lv_iload_n hx hb d_Mo_cut_8 rfl (lv_at hl 2 rfl) ?_
  refine lv_if_lt (tgt := 22) hx hb d_Mo_cut_9 (by decide) (fun hc4 => ?_) (fun hc4 => ?_)
  · refine lv_iconst (v := 0) hx hb d_Mo_cut_22 (by decide) ?_
    exact r_iret C K rfl () rfl (S.sub [3, 0, 1, 2] (by decide) rfl) d_Mo_cut_23 (Nat.le_of_ble_eq_true rfl) (Nat.le_of_ble_eq_true rfl)
  · refine lv_iload_n hx hb d_Mo_cut_12 rfl (lv_at hl 2 rfl) ?_
    refine lv_aload_n hx hb d_Mo_cut_13 rfl (lv_at hl 0 rfl) ?_
    refine r_get C K S 3 rfl rfl clOk_Mo 3 (by decide) wf_Mo_16 (v := .ref (ma 2)) rfl d_Mo_cut_14 ?_
    refine lv_iload_n hx hb d_Mo_cut_17 rfl (lv_at hl 1 rfl) ?_
    refine r_iald C K S 2 rfl (i := (nI f)) (vp_in_nI (by omega) (by decide)) (v := (nI (ct f))) (by rw [nI_clamp (by omega)]) d_Mo_cut_18 ?_
    refine lv_icmp_le (tgt := 24) hx hb d_Mo_cut_19 (by decide) (fun hq => absurd hq (hn.resolve_left hc4)) (fun _ => ?_)
    refine lv_iconst (v := 0) hx hb d_Mo_cut_22 (by decide) ?_
    exact r_iret C K rfl () rfl (S.sub [3, 0, 1, 2] (by decide) rfl) d_Mo_cut_23 (Nat.le_of_ble_eq_true rfl) (Nat.le_of_ble_eq_true rfl)
theorem d_Mo_cut_24 : decode c_Mo_cut 24 = .ok (.aload_n 0, 1) := by decide +kernel
theorem d_Mo_cut_25 : decode c_Mo_cut 25 = .ok (.getfield 16, 3) := by decide +kernel
theorem d_Mo_cut_28 : decode c_Mo_cut 28 = .ok (.iload_n 1, 1) := by decide +kernel
theorem d_Mo_cut_29 : decode c_Mo_cut 29 = .ok (.iload_n 2, 1) := by decide +kernel
theorem d_Mo_cut_30 : decode c_Mo_cut 30 = .ok (.iastore, 1) := by decide +kernel
theorem d_Mo_cut_31 : decode c_Mo_cut 31 = .ok (.iconst 1, 1) := by decide +kernel
theorem d_Mo_cut_32 : decode c_Mo_cut 32 = .ok (.ireturn, 1) := by decide +kernel
set_option maxRecDepth 100000 in
set_option maxHeartbeats 4000000 in
/-- cut -/
theorem g_Mo_cut_ok (l : Launch) (G : va_G) (k : Nat → ClassId) (h0 sz : Nat) (ma : Nat → Nat) (iv : Nat → Int32) (co : Int64) (nf : Nat) (tk ct : Nat → Nat) (wd : Nat → Int32) (f n : Nat) (hf : f < nf) (hnf : nf ≤ 4) (hn : n ≤ ct f) (hc : ct f ≤ 200) : CI l y_Mo_cut c_Mo_cut 3 .boolean { frames := 2, cells := 0, slots := 0, locals := 41 } [.ref h0, .int (nI f), .int (nI n)] G k sz [(h0, .inr (8, moL ma (va_up iv 0 (nI nf)) co)), ((ma 0), .inl (k 0, 4, .inl (fun i => nI (tk i)))), ((ma 1), .inl (k 0, 800, .inl wd)), ((ma 2), .inl (k 0, 4, .inl (fun i => nI (ct i))))] (fun (r : Int32) (u : Unit) => r = 1) (fun u => [(h0, .inr (8, moL ma (va_up iv 0 (nI nf)) co)), ((ma 0), .inl (k 0, 4, .inl (fun i => nI (tk i)))), ((ma 1), .inl (k 0, 800, .inl wd)), ((ma 2), .inl (k 0, 4, .inl (fun i => nI ((va_up ct f n) i))))]) 0 0 := by
  refine met_start (by decide) (Nat.le_of_ble_eq_true rfl) ?_
  intro p e s m below meth c C K hA hsz S ls hl
  generalize va_A [(h0, .inr (8, moL ma (va_up iv 0 (nI nf)) co)), ((ma 0), .inl (k 0, 4, .inl (fun i => nI (tk i)))), ((ma 1), .inl (k 0, 800, .inl wd)), ((ma 2), .inl (k 0, 4, .inl (fun i => nI (ct i))))] sz = A at hA S ⊢
  have hx := C.1
  have hb := C.2.1
  have hl : lv_has ls 3 [(0, .ref h0), (1, .int (nI f)), (2, .int (nI n))] := hl
  refine lv_aload_n hx hb d_Mo_cut_0 rfl (lv_at hl 0 rfl) ?_
  refine lv_iload_n hx hb d_Mo_cut_1 rfl (lv_at hl 1 rfl) ?_
  refine r_backi (wi := [(h0, .inr (8, moL ma (va_up iv 0 (nI nf)) co))]) (wr := [((ma 0), .inl (k 0, 4, .inl (fun i => nI (tk i)))), ((ma 1), .inl (k 0, 800, .inl wd)), ((ma 2), .inl (k 0, 4, .inl (fun i => nI (ct i))))]) S hA [0] [1, 2, 3] rfl rfl (by decide) (by decide) (va_runV (As := [.int (nI f)]) (rest := []) ⟨hx, hb, C.2.2.1, C.2.2.2.1, C.2.2.2.2.1⟩ (g_Mo_isFunction l G k h0 _ ma (va_up iv 0 (nI nf)) co (nI f)) (k_virt (n := 1) C wc_Mo_isFunction rfl rfl wz_Mo wm_Mo_114 wn_Mo_isFunction ws_Mo_isFunction (by decide +kernel) ⟨(Nat.le_of_ble_eq_true rfl), (Nat.le_of_ble_eq_true rfl)⟩) (pr_nowV K S [0] (by decide) rfl 0 rfl rfl) rfl rfl hl.1 rfl (lv_room (Nat.le_of_ble_eq_true rfl)) d_Mo_cut_2 ⟨(Nat.le_of_ble_eq_true rfl), (Nat.le_of_ble_eq_true rfl)⟩) (fun r3 u1 H locs hw2 S => ?_)
  have S : Sw G A s.heap _ _ [((ma 0), .inl (k 0, 4, .inl (fun i => nI (tk i)))), ((ma 1), .inl (k 0, 800, .inl wd)), ((ma 2), .inl (k 0, 4, .inl (fun i => nI (ct i)))), (h0, .inr (8, moL ma (va_up iv 0 (nI nf)) co))] := S
  have hw2 : r3 = 1 := hw2.trans (isF_yes hf hnf)
  subst hw2
  refine lv_if_eq (tgt := 22) hx hb d_Mo_cut_5 (by decide) (fun hq => absurd hq (by decide)) (fun _ => ?_)
  refine lv_iload_n hx hb d_Mo_cut_8 rfl (lv_at hl 2 rfl) ?_
  refine lv_if_lt (tgt := 22) hx hb d_Mo_cut_9 (by decide) (fun hq => absurd hq (nI_pos (by omega))) (fun _ => ?_)
  refine lv_iload_n hx hb d_Mo_cut_12 rfl (lv_at hl 2 rfl) ?_
  refine lv_aload_n hx hb d_Mo_cut_13 rfl (lv_at hl 0 rfl) ?_
  refine r_get C K S 3 rfl rfl clOk_Mo 3 (by decide) wf_Mo_16 (v := .ref (ma 2)) rfl d_Mo_cut_14 ?_
  refine lv_iload_n hx hb d_Mo_cut_17 rfl (lv_at hl 1 rfl) ?_
  refine r_iald C K S 2 rfl (i := (nI f)) (vp_in_nI (by omega) (by decide)) (v := (nI (ct f))) (by rw [nI_clamp (by omega)]) d_Mo_cut_18 ?_
  refine lv_icmp_le (tgt := 24) hx hb d_Mo_cut_19 (by decide) (fun _ => ?_) (fun hq => absurd (nI_le hn (by omega)) hq)
  refine lv_aload_n hx hb d_Mo_cut_24 rfl (lv_at hl 0 rfl) ?_
  refine r_get C K S 3 rfl rfl clOk_Mo 3 (by decide) wf_Mo_16 (v := .ref (ma 2)) rfl d_Mo_cut_25 ?_
  refine lv_iload_n hx hb d_Mo_cut_28 rfl (lv_at hl 1 rfl) ?_
  refine lv_iload_n hx hb d_Mo_cut_29 rfl (lv_at hl 2 rfl) ?_
  refine r_iast C K S 2 rfl (i := (nI f)) (x := (nI n)) (vp_in_nI (by omega) (by decide)) (f' := fun i => nI (va_up ct f n i)) (ws' := [((ma 0), .inl (k 0, 4, .inl (fun i => nI (tk i)))), ((ma 1), .inl (k 0, 800, .inl wd)), ((ma 2), .inl (k 0, 4, .inl (fun i => nI (va_up ct f n i)))), (h0, .inr (8, moL ma (va_up iv 0 (nI nf)) co))]) (upd_nI ct (by omega) n) rfl d_Mo_cut_30 (fun H locs S => ?_)
  refine lv_iconst (v := 1) hx hb d_Mo_cut_31 (by decide) ?_
  exact r_iret C K rfl () rfl (S.sub [3, 0, 1, 2] (by decide) rfl) d_Mo_cut_32 (Nat.le_of_ble_eq_true rfl) (Nat.le_of_ble_eq_true rfl)
