theorem d_PB_isFunction_0 : decode c_PB_isFunction 0 = .ok (.iload_n 1, 1) := by decide +kernel
theorem d_PB_isFunction_1 : decode c_PB_isFunction 1 = .ok (.ifCond .lt 15, 3) := by decide +kernel
theorem d_PB_isFunction_4 : decode c_PB_isFunction 4 = .ok (.iload_n 1, 1) := by decide +kernel
theorem d_PB_isFunction_5 : decode c_PB_isFunction 5 = .ok (.aload_n 0, 1) := by decide +kernel
theorem d_PB_isFunction_6 : decode c_PB_isFunction 6 = .ok (.getfield 57, 3) := by decide +kernel
theorem d_PB_isFunction_9 : decode c_PB_isFunction 9 = .ok (.if_icmp .ge 7, 3) := by decide +kernel
theorem d_PB_isFunction_16 : decode c_PB_isFunction 16 = .ok (.iconst 0, 1) := by decide +kernel
theorem d_PB_isFunction_17 : decode c_PB_isFunction 17 = .ok (.ireturn, 1) := by decide +kernel
set_option maxRecDepth 100000 in
set_option maxHeartbeats 4000000 in
/-- isFunction: there is none -/
theorem f_PB_isFunction (l : Launch) (G : va_G) (k : Nat → ClassId) (h0 sz : Nat) (b re ru ne so be : Nat) (x : Int32) : CI l y_PB_isFunction c_PB_isFunction 2 .boolean { frames := 1, cells := 0, slots := 0, locals := 20 } [.ref h0, .int x] G k sz [(h0, .inr (0, [.ref b, .ref re, .ref ru, .ref ne, .ref so, .ref be, .int 0, .int (-2), .int 0]))] (fun (r : Int32) (_ : Unit) => r = 0) (fun _ => [(h0, .inr (0, [.ref b, .ref re, .ref ru, .ref ne, .ref so, .ref be, .int 0, .int (-2), .int 0]))]) 0 0 := by
  refine met_start (by decide) (Nat.le_of_ble_eq_true rfl) ?_
  intro p e s m below meth c C K hA hsz S ls hl
  generalize va_A [(h0, .inr (0, [.ref b, .ref re, .ref ru, .ref ne, .ref so, .ref be, .int 0, .int (-2), .int 0]))] sz = A at hA S ⊢
  have hx := C.1
  have hb := C.2.1
  have hl : lv_has ls 2 [(0, .ref h0), (1, .int x)] := hl
  refine lv_iload_n hx hb d_PB_isFunction_0 rfl (lv_at hl 1 rfl) ?_
  refine lv_if_lt (tgt := 16) hx hb d_PB_isFunction_1 (by decide) (fun hc1 => ?_) (fun hc1 => ?_)
  · refine lv_iconst (v := 0) hx hb d_PB_isFunction_16 (by decide) ?_
    exact r_iret C K rfl () rfl (S.sub [0] rfl rfl) d_PB_isFunction_17 (Nat.le_of_ble_eq_true rfl) (Nat.le_of_ble_eq_true rfl)
  · refine lv_iload_n hx hb d_PB_isFunction_4 rfl (lv_at hl 1 rfl) ?_
    refine lv_aload_n hx hb d_PB_isFunction_5 rfl (lv_at hl 0 rfl) ?_
    refine r_get C K S 0 rfl rfl clOk_PB 6 (by decide) wf_PB_57 (v := .int 0) rfl d_PB_isFunction_6 ?_
    refine lv_icmp_ge (tgt := 16) hx hb d_PB_isFunction_9 (by decide) (fun _ => ?_) (fun hq => absurd (Int32.not_lt.mp hc1) hq)
    refine lv_iconst (v := 0) hx hb d_PB_isFunction_16 (by decide) ?_
    exact r_iret C K rfl () rfl (S.sub [0] rfl rfl) d_PB_isFunction_17 (Nat.le_of_ble_eq_true rfl) (Nat.le_of_ble_eq_true rfl)
theorem d_PB_place_0 : decode c_PB_place 0 = .ok (.aload_n 0, 1) := by decide +kernel
theorem d_PB_place_1 : decode c_PB_place 1 = .ok (.getfield 29, 3) := by decide +kernel
theorem d_PB_place_4 : decode c_PB_place 4 = .ok (.ireturn, 1) := by decide +kernel
set_option maxRecDepth 100000 in
set_option maxHeartbeats 4000000 in
/-- place() -/
theorem f_PB_place (l : Launch) (G : va_G) (k : Nat → ClassId) (h0 sz : Nat) (b re ru ne so be : Nat) : CI l y_PB_place c_PB_place 1 .int { frames := 1, cells := 0, slots := 0, locals := 20 } [.ref h0] G k sz [(h0, .inr (0, [.ref b, .ref re, .ref ru, .ref ne, .ref so, .ref be, .int 0, .int (-2), .int 0]))] (fun (r : Int32) (_ : Unit) => r = (-2)) (fun _ => []) 0 0 := by
  refine met_start (by decide) (Nat.le_of_ble_eq_true rfl) ?_
  intro p e s m below meth c C K hA hsz S ls hl
  generalize va_A [(h0, .inr (0, [.ref b, .ref re, .ref ru, .ref ne, .ref so, .ref be, .int 0, .int (-2), .int 0]))] sz = A at hA S ⊢
  have hx := C.1
  have hb := C.2.1
  have hl : lv_has ls 1 [(0, .ref h0)] := hl
  refine lv_aload_n hx hb d_PB_place_0 rfl (lv_at hl 0 rfl) ?_
  refine r_get C K S 0 rfl rfl clOk_PB 7 (by decide) wf_PB_29 (v := .int (-2)) rfl d_PB_place_1 ?_
  exact r_iret C K rfl () rfl (S.sub [] rfl rfl) d_PB_place_4 (Nat.le_of_ble_eq_true rfl) (Nat.le_of_ble_eq_true rfl)
theorem d_PB_word_0 : decode c_PB_word 0 = .ok (.aload_n 0, 1) := by decide +kernel
theorem d_PB_word_1 : decode c_PB_word 1 = .ok (.iload_n 1, 1) := by decide +kernel
theorem d_PB_word_2 : decode c_PB_word 2 = .ok (.invokevirtual 63, 3) := by decide +kernel
theorem d_PB_word_5 : decode c_PB_word 5 = .ok (.ifCond .ne 5, 3) := by decide +kernel
theorem d_PB_word_8 : decode c_PB_word 8 = .ok (.iconst (-1), 1) := by decide +kernel
theorem d_PB_word_9 : decode c_PB_word 9 = .ok (.ireturn, 1) := by decide +kernel
set_option maxRecDepth 100000 in
set_option maxHeartbeats 4000000 in
/-- word() -/
theorem f_PB_word (l : Launch) (G : va_G) (k : Nat → ClassId) (h0 sz : Nat) (b re ru ne so be : Nat) (x y : Int32) : CI l y_PB_word c_PB_word 4 .int { frames := 2, cells := 0, slots := 0, locals := 41 } [.ref h0, .int x, .int y] G k sz [(h0, .inr (0, [.ref b, .ref re, .ref ru, .ref ne, .ref so, .ref be, .int 0, .int (-2), .int 0]))] (fun (r : Int32) (_ : Unit) => r = (-1)) (fun _ => []) 0 0 := by
  refine met_start (by decide) (Nat.le_of_ble_eq_true rfl) ?_
  intro p e s m below meth c C K hA hsz S ls hl
  generalize va_A [(h0, .inr (0, [.ref b, .ref re, .ref ru, .ref ne, .ref so, .ref be, .int 0, .int (-2), .int 0]))] sz = A at hA S ⊢
  have hx := C.1
  have hb := C.2.1
  have hl : lv_has ls 4 [(0, .ref h0), (1, .int x), (2, .int y)] := hl
  refine lv_aload_n hx hb d_PB_word_0 rfl (lv_at hl 0 rfl) ?_
  refine lv_iload_n hx hb d_PB_word_1 rfl (lv_at hl 1 rfl) ?_
  refine r_backi (wi := [(h0, .inr (0, [.ref b, .ref re, .ref ru, .ref ne, .ref so, .ref be, .int 0, .int (-2), .int 0]))]) (wr := []) S hA [0] [] rfl rfl (by decide) (by decide) (va_runV (As := [.int x]) (rest := []) ⟨hx, hb, C.2.2.1, C.2.2.2.1, C.2.2.2.2.1⟩ (f_PB_isFunction l G k h0 _ b re ru ne so be x) (k_virt (n := 1) C wc_PB_isFunction rfl rfl wz_PB wm_PB_63 wn_PB_isFunction ws_PB_isFunction (by decide +kernel) ⟨(Nat.le_of_ble_eq_true rfl), (Nat.le_of_ble_eq_true rfl)⟩) (pr_nowV K S [0] (by decide) rfl 0 rfl rfl) rfl rfl hl.1 rfl (lv_room (Nat.le_of_ble_eq_true rfl)) d_PB_word_2 ⟨(Nat.le_of_ble_eq_true rfl), (Nat.le_of_ble_eq_true rfl)⟩) (fun r3 u1 H locs hw2 S => ?_)
  have S : Sw G A s.heap _ _ [(h0, .inr (0, [.ref b, .ref re, .ref ru, .ref ne, .ref so, .ref be, .int 0, .int (-2), .int 0]))] := S
  have hw2 : r3 = 0 := hw2
  subst hw2
  refine lv_if_ne (tgt := 10) hx hb d_PB_word_5 (by decide) (fun hq => absurd (by decide) hq) (fun _ => ?_)
  refine lv_iconst (v := (-1)) hx hb d_PB_word_8 (by decide) ?_
  exact r_iret C K rfl () rfl (S.sub [] rfl rfl) d_PB_word_9 (Nat.le_of_ble_eq_true rfl) (Nat.le_of_ble_eq_true rfl)
theorem d_PB_cut_0 : decode c_PB_cut 0 = .ok (.aload_n 0, 1) := by decide +kernel
theorem d_PB_cut_1 : decode c_PB_cut 1 = .ok (.iload_n 1, 1) := by decide +kernel
theorem d_PB_cut_2 : decode c_PB_cut 2 = .ok (.invokevirtual 63, 3) := by decide +kernel
theorem d_PB_cut_5 : decode c_PB_cut 5 = .ok (.ifCond .eq 20, 3) := by decide +kernel
theorem d_PB_cut_25 : decode c_PB_cut 25 = .ok (.iconst 0, 1) := by decide +kernel
theorem d_PB_cut_26 : decode c_PB_cut 26 = .ok (.ireturn, 1) := by decide +kernel
set_option maxRecDepth 100000 in
set_option maxHeartbeats 4000000 in
/-- cut() -/
theorem f_PB_cut (l : Launch) (G : va_G) (k : Nat → ClassId) (h0 sz : Nat) (b re ru ne so be : Nat) (x y : Int32) : CI l y_PB_cut c_PB_cut 3 .boolean { frames := 2, cells := 0, slots := 0, locals := 41 } [.ref h0, .int x, .int y] G k sz [(h0, .inr (0, [.ref b, .ref re, .ref ru, .ref ne, .ref so, .ref be, .int 0, .int (-2), .int 0]))] (fun (r : Int32) (_ : Unit) => r = 0) (fun _ => []) 0 0 := by
  refine met_start (by decide) (Nat.le_of_ble_eq_true rfl) ?_
  intro p e s m below meth c C K hA hsz S ls hl
  generalize va_A [(h0, .inr (0, [.ref b, .ref re, .ref ru, .ref ne, .ref so, .ref be, .int 0, .int (-2), .int 0]))] sz = A at hA S ⊢
  have hx := C.1
  have hb := C.2.1
  have hl : lv_has ls 3 [(0, .ref h0), (1, .int x), (2, .int y)] := hl
  refine lv_aload_n hx hb d_PB_cut_0 rfl (lv_at hl 0 rfl) ?_
  refine lv_iload_n hx hb d_PB_cut_1 rfl (lv_at hl 1 rfl) ?_
  refine r_backi (wi := [(h0, .inr (0, [.ref b, .ref re, .ref ru, .ref ne, .ref so, .ref be, .int 0, .int (-2), .int 0]))]) (wr := []) S hA [0] [] rfl rfl (by decide) (by decide) (va_runV (As := [.int x]) (rest := []) ⟨hx, hb, C.2.2.1, C.2.2.2.1, C.2.2.2.2.1⟩ (f_PB_isFunction l G k h0 _ b re ru ne so be x) (k_virt (n := 1) C wc_PB_isFunction rfl rfl wz_PB wm_PB_63 wn_PB_isFunction ws_PB_isFunction (by decide +kernel) ⟨(Nat.le_of_ble_eq_true rfl), (Nat.le_of_ble_eq_true rfl)⟩) (pr_nowV K S [0] (by decide) rfl 0 rfl rfl) rfl rfl hl.1 rfl (lv_room (Nat.le_of_ble_eq_true rfl)) d_PB_cut_2 ⟨(Nat.le_of_ble_eq_true rfl), (Nat.le_of_ble_eq_true rfl)⟩) (fun r3 u1 H locs hw2 S => ?_)
  have S : Sw G A s.heap _ _ [(h0, .inr (0, [.ref b, .ref re, .ref ru, .ref ne, .ref so, .ref be, .int 0, .int (-2), .int 0]))] := S
  have hw2 : r3 = 0 := hw2
  subst hw2
  refine lv_if_eq (tgt := 25) hx hb d_PB_cut_5 (by decide) (fun _ => ?_) (fun hq => absurd (by decide) hq)
  refine lv_iconst (v := 0) hx hb d_PB_cut_25 (by decide) ?_
  exact r_iret C K rfl () rfl (S.sub [] rfl rfl) d_PB_cut_26 (Nat.le_of_ble_eq_true rfl) (Nat.le_of_ble_eq_true rfl)
theorem d_PB_firstWrong_0 : decode c_PB_firstWrong 0 = .ok (.iconst 0, 1) := by decide +kernel
theorem d_PB_firstWrong_1 : decode c_PB_firstWrong 1 = .ok (.istore_n 1, 1) := by decide +kernel
theorem d_PB_firstWrong_2 : decode c_PB_firstWrong 2 = .ok (.iload_n 1, 1) := by decide +kernel
theorem d_PB_firstWrong_3 : decode c_PB_firstWrong 3 = .ok (.aload_n 0, 1) := by decide +kernel
theorem d_PB_firstWrong_4 : decode c_PB_firstWrong 4 = .ok (.getfield 57, 3) := by decide +kernel
theorem d_PB_firstWrong_7 : decode c_PB_firstWrong 7 = .ok (.if_icmp .ge 26, 3) := by decide +kernel
theorem d_PB_firstWrong_33 : decode c_PB_firstWrong 33 = .ok (.bipush (-2), 2) := by decide +kernel
theorem d_PB_firstWrong_35 : decode c_PB_firstWrong 35 = .ok (.ireturn, 1) := by decide +kernel
set_option maxRecDepth 100000 in
set_option maxHeartbeats 4000000 in
/-- no function, none wrong -/
theorem f_PB_firstWrong (l : Launch) (G : va_G) (k : Nat → ClassId) (h0 sz : Nat) (b re ru ne so be : Nat) : CI l y_PB_firstWrong c_PB_firstWrong 2 .int { frames := 1, cells := 0, slots := 0, locals := 20 } [.ref h0] G k sz [(h0, .inr (0, [.ref b, .ref re, .ref ru, .ref ne, .ref so, .ref be, .int 0, .int (-2), .int 0]))] (fun (r : Int32) (_ : Unit) => r = (-2)) (fun _ => [(h0, .inr (0, [.ref b, .ref re, .ref ru, .ref ne, .ref so, .ref be, .int 0, .int (-2), .int 0]))]) 0 0 := by
  refine met_start (by decide) (Nat.le_of_ble_eq_true rfl) ?_
  intro p e s m below meth c C K hA hsz S ls hl
  generalize va_A [(h0, .inr (0, [.ref b, .ref re, .ref ru, .ref ne, .ref so, .ref be, .int 0, .int (-2), .int 0]))] sz = A at hA S ⊢
  have hx := C.1
  have hb := C.2.1
  have hl : lv_has ls 2 [(0, .ref h0)] := hl
  refine lv_iconst (v := 0) hx hb d_PB_firstWrong_0 (by decide) ?_
  refine lv_istore_n (lv' := [(1, .int 0), (0, .ref h0)]) hx hb d_PB_firstWrong_1 rfl hl (by decide) rfl (fun ls hl => ?_)
  refine lv_iload_n hx hb d_PB_firstWrong_2 rfl (lv_at hl 0 rfl) ?_
  refine lv_aload_n hx hb d_PB_firstWrong_3 rfl (lv_at hl 1 rfl) ?_
  refine r_get C K S 0 rfl rfl clOk_PB 6 (by decide) wf_PB_57 (v := .int 0) rfl d_PB_firstWrong_4 ?_
  refine lv_icmp_ge (tgt := 33) hx hb d_PB_firstWrong_7 (by decide) (fun _ => ?_) (fun hq => absurd (by decide) hq)
  refine lv_bipush (v := (-2)) hx hb d_PB_firstWrong_33 (by decide) ?_
  exact r_iret C K rfl () rfl (S.sub [0] rfl rfl) d_PB_firstWrong_35 (Nat.le_of_ble_eq_true rfl) (Nat.le_of_ble_eq_true rfl)
theorem d_PB_look_0 : decode c_PB_look 0 = .ok (.aload_n 0, 1) := by decide +kernel
theorem d_PB_look_1 : decode c_PB_look 1 = .ok (.invokevirtual 74, 3) := by decide +kernel
theorem d_PB_look_4 : decode c_PB_look 4 = .ok (.istore_n 1, 1) := by decide +kernel
theorem d_PB_look_5 : decode c_PB_look 5 = .ok (.iload_n 1, 1) := by decide +kernel
theorem d_PB_look_6 : decode c_PB_look 6 = .ok (.bipush (-2), 2) := by decide +kernel
theorem d_PB_look_8 : decode c_PB_look 8 = .ok (.if_icmp .ne 11, 3) := by decide +kernel
theorem d_PB_look_11 : decode c_PB_look 11 = .ok (.aload_n 0, 1) := by decide +kernel
theorem d_PB_look_12 : decode c_PB_look 12 = .ok (.bipush (-2), 2) := by decide +kernel
theorem d_PB_look_14 : decode c_PB_look 14 = .ok (.putfield 29, 3) := by decide +kernel
theorem d_PB_look_17 : decode c_PB_look 17 = .ok (.iconst 0, 1) := by decide +kernel
theorem d_PB_look_18 : decode c_PB_look 18 = .ok (.ireturn, 1) := by decide +kernel
set_option maxRecDepth 100000 in
set_option maxHeartbeats 4000000 in
/-- look() -/
theorem f_PB_look (l : Launch) (G : va_G) (k : Nat → ClassId) (h0 sz : Nat) (b re ru ne so be : Nat) : CI l y_PB_look c_PB_look 2 .int { frames := 2, cells := 0, slots := 0, locals := 41 } [.ref h0] G k sz [(h0, .inr (0, [.ref b, .ref re, .ref ru, .ref ne, .ref so, .ref be, .int 0, .int (-2), .int 0]))] (fun (r : Int32) (_ : Unit) => r = 0) (fun _ => []) 0 0 := by
  refine met_start (by decide) (Nat.le_of_ble_eq_true rfl) ?_
  intro p e s m below meth c C K hA hsz S ls hl
  generalize va_A [(h0, .inr (0, [.ref b, .ref re, .ref ru, .ref ne, .ref so, .ref be, .int 0, .int (-2), .int 0]))] sz = A at hA S ⊢
  have hx := C.1
  have hb := C.2.1
  have hl : lv_has ls 2 [(0, .ref h0)] := hl
  refine lv_aload_n hx hb d_PB_look_0 rfl (lv_at hl 0 rfl) ?_
  refine r_backi (wi := [(h0, .inr (0, [.ref b, .ref re, .ref ru, .ref ne, .ref so, .ref be, .int 0, .int (-2), .int 0]))]) (wr := []) S hA [0] [] rfl rfl (by decide) (by decide) (va_runV (As := []) (rest := []) ⟨hx, hb, C.2.2.1, C.2.2.2.1, C.2.2.2.2.1⟩ (f_PB_firstWrong l G k h0 _ b re ru ne so be) (k_virt (n := 0) C wc_PB_firstWrong rfl rfl wz_PB wm_PB_74 wn_PB_firstWrong ws_PB_firstWrong (by decide +kernel) ⟨(Nat.le_of_ble_eq_true rfl), (Nat.le_of_ble_eq_true rfl)⟩) (pr_nowV K S [0] (by decide) rfl 0 rfl rfl) rfl rfl hl.1 rfl (lv_room (Nat.le_of_ble_eq_true rfl)) d_PB_look_1 ⟨(Nat.le_of_ble_eq_true rfl), (Nat.le_of_ble_eq_true rfl)⟩) (fun r3 u1 H locs hw2 S => ?_)
  have S : Sw G A s.heap _ _ [(h0, .inr (0, [.ref b, .ref re, .ref ru, .ref ne, .ref so, .ref be, .int 0, .int (-2), .int 0]))] := S
  have hw2 : r3 = (-2) := hw2
  subst hw2
  refine lv_istore_n (lv' := [(1, .int (-2)), (0, .ref h0)]) hx hb d_PB_look_4 rfl hl (by decide) rfl (fun ls hl => ?_)
  refine lv_iload_n hx hb d_PB_look_5 rfl (lv_at hl 0 rfl) ?_
  refine lv_bipush (v := (-2)) hx hb d_PB_look_6 (by decide) ?_
  refine lv_icmp_ne (tgt := 19) hx hb d_PB_look_8 (by decide) (fun hq => absurd (by decide) hq) (fun _ => ?_)
  refine lv_aload_n hx hb d_PB_look_11 rfl (lv_at hl 1 rfl) ?_
  refine lv_bipush (v := (-2)) hx hb d_PB_look_12 (by decide) ?_
  refine r_put C K S 0 rfl rfl clOk_PB 7 (by decide) wf_PB_29 rfl (ty := .int) (v := .int (-2)) (by decide +kernel) rfl rfl (Nat.le_of_ble_eq_true rfl) (fs' := [.ref b, .ref re, .ref ru, .ref ne, .ref so, .ref be, .int 0, .int (-2), .int 0]) (ws' := [(h0, .inr (0, [.ref b, .ref re, .ref ru, .ref ne, .ref so, .ref be, .int 0, .int (-2), .int 0]))]) rfl rfl d_PB_look_14 (fun H locs S => ?_)
  refine lv_iconst (v := 0) hx hb d_PB_look_17 (by decide) ?_
  exact r_iret C K rfl () rfl (S.sub [] rfl rfl) d_PB_look_18 (Nat.le_of_ble_eq_true rfl) (Nat.le_of_ble_eq_true rfl)
theorem d_PB_run_0 : decode c_PB_run 0 = .ok (.aload_n 0, 1) := by decide +kernel
theorem d_PB_run_1 : decode c_PB_run 1 = .ok (.iload_n 1, 1) := by decide +kernel
theorem d_PB_run_2 : decode c_PB_run 2 = .ok (.invokevirtual 63, 3) := by decide +kernel
theorem d_PB_run_5 : decode c_PB_run 5 = .ok (.ifCond .eq 31, 3) := by decide +kernel
theorem d_PB_run_36 : decode c_PB_run 36 = .ok (.iconst (-1), 1) := by decide +kernel
theorem d_PB_run_37 : decode c_PB_run 37 = .ok (.ireturn, 1) := by decide +kernel
set_option maxRecDepth 100000 in
set_option maxHeartbeats 4000000 in
/-- run() -/
theorem f_PB_run (l : Launch) (G : va_G) (k : Nat → ClassId) (h0 sz : Nat) (b re ru ne so be : Nat) (x y z v : Int32) : CI l y_PB_run c_PB_run 5 .int { frames := 2, cells := 0, slots := 0, locals := 41 } [.ref h0, .int x, .int y, .int z, .int v] G k sz [(h0, .inr (0, [.ref b, .ref re, .ref ru, .ref ne, .ref so, .ref be, .int 0, .int (-2), .int 0]))] (fun (r : Int32) (_ : Unit) => r = (-1)) (fun _ => []) 0 0 := by
  refine met_start (by decide) (Nat.le_of_ble_eq_true rfl) ?_
  intro p e s m below meth c C K hA hsz S ls hl
  generalize va_A [(h0, .inr (0, [.ref b, .ref re, .ref ru, .ref ne, .ref so, .ref be, .int 0, .int (-2), .int 0]))] sz = A at hA S ⊢
  have hx := C.1
  have hb := C.2.1
  have hl : lv_has ls 5 [(0, .ref h0), (1, .int x), (2, .int y), (3, .int z), (4, .int v)] := hl
  refine lv_aload_n hx hb d_PB_run_0 rfl (lv_at hl 0 rfl) ?_
  refine lv_iload_n hx hb d_PB_run_1 rfl (lv_at hl 1 rfl) ?_
  refine r_backi (wi := [(h0, .inr (0, [.ref b, .ref re, .ref ru, .ref ne, .ref so, .ref be, .int 0, .int (-2), .int 0]))]) (wr := []) S hA [0] [] rfl rfl (by decide) (by decide) (va_runV (As := [.int x]) (rest := []) ⟨hx, hb, C.2.2.1, C.2.2.2.1, C.2.2.2.2.1⟩ (f_PB_isFunction l G k h0 _ b re ru ne so be x) (k_virt (n := 1) C wc_PB_isFunction rfl rfl wz_PB wm_PB_63 wn_PB_isFunction ws_PB_isFunction (by decide +kernel) ⟨(Nat.le_of_ble_eq_true rfl), (Nat.le_of_ble_eq_true rfl)⟩) (pr_nowV K S [0] (by decide) rfl 0 rfl rfl) rfl rfl hl.1 rfl (lv_room (Nat.le_of_ble_eq_true rfl)) d_PB_run_2 ⟨(Nat.le_of_ble_eq_true rfl), (Nat.le_of_ble_eq_true rfl)⟩) (fun r3 u1 H locs hw2 S => ?_)
  have S : Sw G A s.heap _ _ [(h0, .inr (0, [.ref b, .ref re, .ref ru, .ref ne, .ref so, .ref be, .int 0, .int (-2), .int 0]))] := S
  have hw2 : r3 = 0 := hw2
  subst hw2
  refine lv_if_eq (tgt := 36) hx hb d_PB_run_5 (by decide) (fun _ => ?_) (fun hq => absurd (by decide) hq)
  refine lv_iconst (v := (-1)) hx hb d_PB_run_36 (by decide) ?_
  exact r_iret C K rfl () rfl (S.sub [] rfl rfl) d_PB_run_37 (Nat.le_of_ble_eq_true rfl) (Nat.le_of_ble_eq_true rfl)
theorem d_PB_told_0 : decode c_PB_told 0 = .ok (.aload_n 0, 1) := by decide +kernel
theorem d_PB_told_1 : decode c_PB_told 1 = .ok (.getfield 103, 3) := by decide +kernel
theorem d_PB_told_4 : decode c_PB_told 4 = .ok (.ifCond .eq 12, 3) := by decide +kernel
theorem d_PB_told_16 : decode c_PB_told 16 = .ok (.bipush (-2), 2) := by decide +kernel
theorem d_PB_told_18 : decode c_PB_told 18 = .ok (.ireturn, 1) := by decide +kernel
set_option maxRecDepth 100000 in
set_option maxHeartbeats 4000000 in
/-- told() -/
theorem f_PB_told (l : Launch) (G : va_G) (k : Nat → ClassId) (h0 sz : Nat) (b re ru ne so be : Nat) (x : Int32) : CI l y_PB_told c_PB_told 2 .int { frames := 1, cells := 0, slots := 0, locals := 20 } [.ref h0, .int x] G k sz [(h0, .inr (0, [.ref b, .ref re, .ref ru, .ref ne, .ref so, .ref be, .int 0, .int (-2), .int 0]))] (fun (r : Int32) (_ : Unit) => r = (-2)) (fun _ => []) 0 0 := by
  refine met_start (by decide) (Nat.le_of_ble_eq_true rfl) ?_
  intro p e s m below meth c C K hA hsz S ls hl
  generalize va_A [(h0, .inr (0, [.ref b, .ref re, .ref ru, .ref ne, .ref so, .ref be, .int 0, .int (-2), .int 0]))] sz = A at hA S ⊢
  have hx := C.1
  have hb := C.2.1
  have hl : lv_has ls 2 [(0, .ref h0), (1, .int x)] := hl
  refine lv_aload_n hx hb d_PB_told_0 rfl (lv_at hl 0 rfl) ?_
  refine r_get C K S 0 rfl rfl clOk_PB 8 (by decide) wf_PB_103 (v := .int 0) rfl d_PB_told_1 ?_
  refine lv_if_eq (tgt := 16) hx hb d_PB_told_4 (by decide) (fun _ => ?_) (fun hq => absurd (by decide) hq)
  refine lv_bipush (v := (-2)) hx hb d_PB_told_16 (by decide) ?_
  exact r_iret C K rfl () rfl (S.sub [] rfl rfl) d_PB_told_18 (Nat.le_of_ble_eq_true rfl) (Nat.le_of_ble_eq_true rfl)
theorem d_PB_cost_0 : decode c_PB_cost 0 = .ok (.aload_n 0, 1) := by decide +kernel
theorem d_PB_cost_1 : decode c_PB_cost 1 = .ok (.getfield 46, 3) := by decide +kernel
theorem d_PB_cost_4 : decode c_PB_cost 4 = .ok (.getfield 93, 3) := by decide +kernel
theorem d_PB_cost_7 : decode c_PB_cost 7 = .ok (.lreturn, 1) := by decide +kernel
set_option maxRecDepth 100000 in
set_option maxHeartbeats 4000000 in
/-- cost() -/
theorem f_PB_cost (l : Launch) (G : va_G) (k : Nat → ClassId) (h0 sz : Nat) (b re ru ne so be : Nat) (rb rc rl rw rx : Nat) : CL l y_PB_cost c_PB_cost 1 { frames := 1, cells := 0, slots := 0, locals := 20 } [.ref h0] G k sz [(h0, .inr (0, [.ref b, .ref re, .ref ru, .ref ne, .ref so, .ref be, .int 0, .int (-2), .int 0])), (ru, .inr (6, [.ref rb, .ref rc, .ref rl, .ref rw, .ref rx, .int 0, .int 0, .int 0, .int 0, .int 0, .long 0, .int (-2)]))] (fun (r : Int64) (_ : Unit) => r = 0) (fun _ => []) 0 0 := by
  refine met_start (by decide) (Nat.le_of_ble_eq_true rfl) ?_
  intro p e s m below meth c C K hA hsz S ls hl
  generalize va_A [(h0, .inr (0, [.ref b, .ref re, .ref ru, .ref ne, .ref so, .ref be, .int 0, .int (-2), .int 0])), (ru, .inr (6, [.ref rb, .ref rc, .ref rl, .ref rw, .ref rx, .int 0, .int 0, .int 0, .int 0, .int 0, .long 0, .int (-2)]))] sz = A at hA S ⊢
  have hx := C.1
  have hb := C.2.1
  have hl : lv_has ls 1 [(0, .ref h0)] := hl
  refine lv_aload_n hx hb d_PB_cost_0 rfl (lv_at hl 0 rfl) ?_
  refine r_get C K S 0 rfl rfl clOk_PB 2 (by decide) wf_PB_46 (v := .ref ru) rfl d_PB_cost_1 ?_
  refine r_getN C K S 1 rfl rfl clOk_Ru 10 (by decide) xf_PB_93 (v := .long 0) rfl d_PB_cost_4 ?_
  exact r_lret C K () rfl (S.sub [] rfl rfl) d_PB_cost_7 (Nat.le_of_ble_eq_true rfl) (Nat.le_of_ble_eq_true rfl)
theorem d_PB_given_0 : decode c_PB_given 0 = .ok (.aload_n 0, 1) := by decide +kernel
theorem d_PB_given_1 : decode c_PB_given 1 = .ok (.getfield 46, 3) := by decide +kernel
theorem d_PB_given_4 : decode c_PB_given 4 = .ok (.getfield 97, 3) := by decide +kernel
theorem d_PB_given_7 : decode c_PB_given 7 = .ok (.ireturn, 1) := by decide +kernel
set_option maxRecDepth 100000 in
set_option maxHeartbeats 4000000 in
/-- given() -/
theorem f_PB_given (l : Launch) (G : va_G) (k : Nat → ClassId) (h0 sz : Nat) (b re ru ne so be : Nat) (rb rc rl rw rx : Nat) : CI l y_PB_given c_PB_given 1 .int { frames := 1, cells := 0, slots := 0, locals := 20 } [.ref h0] G k sz [(h0, .inr (0, [.ref b, .ref re, .ref ru, .ref ne, .ref so, .ref be, .int 0, .int (-2), .int 0])), (ru, .inr (6, [.ref rb, .ref rc, .ref rl, .ref rw, .ref rx, .int 0, .int 0, .int 0, .int 0, .int 0, .long 0, .int (-2)]))] (fun (r : Int32) (_ : Unit) => r = (-2)) (fun _ => []) 0 0 := by
  refine met_start (by decide) (Nat.le_of_ble_eq_true rfl) ?_
  intro p e s m below meth c C K hA hsz S ls hl
  generalize va_A [(h0, .inr (0, [.ref b, .ref re, .ref ru, .ref ne, .ref so, .ref be, .int 0, .int (-2), .int 0])), (ru, .inr (6, [.ref rb, .ref rc, .ref rl, .ref rw, .ref rx, .int 0, .int 0, .int 0, .int 0, .int 0, .long 0, .int (-2)]))] sz = A at hA S ⊢
  have hx := C.1
  have hb := C.2.1
  have hl : lv_has ls 1 [(0, .ref h0)] := hl
  refine lv_aload_n hx hb d_PB_given_0 rfl (lv_at hl 0 rfl) ?_
  refine r_get C K S 0 rfl rfl clOk_PB 2 (by decide) wf_PB_46 (v := .ref ru) rfl d_PB_given_1 ?_
  refine r_getN C K S 1 rfl rfl clOk_Ru 11 (by decide) xf_PB_97 (v := .int (-2)) rfl d_PB_given_4 ?_
  exact r_iret C K rfl () rfl (S.sub [] rfl rfl) d_PB_given_7 (Nat.le_of_ble_eq_true rfl) (Nat.le_of_ble_eq_true rfl)
theorem d_PB_steps_0 : decode c_PB_steps 0 = .ok (.aload_n 0, 1) := by decide +kernel
theorem d_PB_steps_1 : decode c_PB_steps 1 = .ok (.getfield 46, 3) := by decide +kernel
theorem d_PB_steps_4 : decode c_PB_steps 4 = .ok (.getfield 100, 3) := by decide +kernel
theorem d_PB_steps_7 : decode c_PB_steps 7 = .ok (.ireturn, 1) := by decide +kernel
set_option maxRecDepth 100000 in
set_option maxHeartbeats 4000000 in
/-- steps() -/
theorem f_PB_steps (l : Launch) (G : va_G) (k : Nat → ClassId) (h0 sz : Nat) (b re ru ne so be : Nat) (rb rc rl rw rx : Nat) : CI l y_PB_steps c_PB_steps 1 .int { frames := 1, cells := 0, slots := 0, locals := 20 } [.ref h0] G k sz [(h0, .inr (0, [.ref b, .ref re, .ref ru, .ref ne, .ref so, .ref be, .int 0, .int (-2), .int 0])), (ru, .inr (6, [.ref rb, .ref rc, .ref rl, .ref rw, .ref rx, .int 0, .int 0, .int 0, .int 0, .int 0, .long 0, .int (-2)]))] (fun (r : Int32) (_ : Unit) => r = 0) (fun _ => []) 0 0 := by
  refine met_start (by decide) (Nat.le_of_ble_eq_true rfl) ?_
  intro p e s m below meth c C K hA hsz S ls hl
  generalize va_A [(h0, .inr (0, [.ref b, .ref re, .ref ru, .ref ne, .ref so, .ref be, .int 0, .int (-2), .int 0])), (ru, .inr (6, [.ref rb, .ref rc, .ref rl, .ref rw, .ref rx, .int 0, .int 0, .int 0, .int 0, .int 0, .long 0, .int (-2)]))] sz = A at hA S ⊢
  have hx := C.1
  have hb := C.2.1
  have hl : lv_has ls 1 [(0, .ref h0)] := hl
  refine lv_aload_n hx hb d_PB_steps_0 rfl (lv_at hl 0 rfl) ?_
  refine r_get C K S 0 rfl rfl clOk_PB 2 (by decide) wf_PB_46 (v := .ref ru) rfl d_PB_steps_1 ?_
  refine r_getN C K S 1 rfl rfl clOk_Ru 9 (by decide) xf_PB_100 (v := .int 0) rfl d_PB_steps_4 ?_
  exact r_iret C K rfl () rfl (S.sub [] rfl rfl) d_PB_steps_7 (Nat.le_of_ble_eq_true rfl) (Nat.le_of_ble_eq_true rfl)
theorem d_Be_has_0 : decode c_Be_has 0 = .ok (.aload_n 0, 1) := by decide +kernel
theorem d_Be_has_1 : decode c_Be_has 1 = .ok (.getfield 34, 3) := by decide +kernel
theorem d_Be_has_4 : decode c_Be_has 4 = .ok (.ifCond .eq 24, 3) := by decide +kernel
theorem d_Be_has_28 : decode c_Be_has 28 = .ok (.iconst 0, 1) := by decide +kernel
theorem d_Be_has_29 : decode c_Be_has 29 = .ok (.ireturn, 1) := by decide +kernel
set_option maxRecDepth 100000 in
set_option maxHeartbeats 4000000 in
/-- has(): nothing is found -/
theorem f_Be_has (l : Launch) (G : va_G) (k : Nat → ClassId) (h0 sz : Nat) (bp bu bs bf bq br : Nat) (x : Int32) : CI l y_Be_has c_Be_has 2 .boolean { frames := 1, cells := 0, slots := 0, locals := 20 } [.ref h0, .int x] G k sz [(h0, .inr (3, [.ref bp, .ref bu, .ref bs, .ref bf, .ref bq, .ref br, .int 0, .int 0]))] (fun (r : Int32) (_ : Unit) => r = 0) (fun _ => [(h0, .inr (3, [.ref bp, .ref bu, .ref bs, .ref bf, .ref bq, .ref br, .int 0, .int 0]))]) 0 0 := by
  refine met_start (by decide) (Nat.le_of_ble_eq_true rfl) ?_
  intro p e s m below meth c C K hA hsz S ls hl
  generalize va_A [(h0, .inr (3, [.ref bp, .ref bu, .ref bs, .ref bf, .ref bq, .ref br, .int 0, .int 0]))] sz = A at hA S ⊢
  have hx := C.1
  have hb := C.2.1
  have hl : lv_has ls 2 [(0, .ref h0), (1, .int x)] := hl
  refine lv_aload_n hx hb d_Be_has_0 rfl (lv_at hl 0 rfl) ?_
  refine r_get C K S 0 rfl rfl clOk_Be 6 (by decide) wf_Be_34 (v := .int 0) rfl d_Be_has_1 ?_
  refine lv_if_eq (tgt := 28) hx hb d_Be_has_4 (by decide) (fun _ => ?_) (fun hq => absurd (by decide) hq)
  refine lv_iconst (v := 0) hx hb d_Be_has_28 (by decide) ?_
  exact r_iret C K rfl () rfl (S.sub [0] rfl rfl) d_Be_has_29 (Nat.le_of_ble_eq_true rfl) (Nat.le_of_ble_eq_true rfl)
theorem d_PB_bound_0 : decode c_PB_bound 0 = .ok (.aload_n 0, 1) := by decide +kernel
theorem d_PB_bound_1 : decode c_PB_bound 1 = .ok (.iconst 0, 1) := by decide +kernel
theorem d_PB_bound_2 : decode c_PB_bound 2 = .ok (.putfield 103, 3) := by decide +kernel
theorem d_PB_bound_5 : decode c_PB_bound 5 = .ok (.aload_n 0, 1) := by decide +kernel
theorem d_PB_bound_6 : decode c_PB_bound 6 = .ok (.getfield 25, 3) := by decide +kernel
theorem d_PB_bound_9 : decode c_PB_bound 9 = .ok (.iconst 0, 1) := by decide +kernel
theorem d_PB_bound_10 : decode c_PB_bound 10 = .ok (.putfield 107, 3) := by decide +kernel
theorem d_PB_bound_13 : decode c_PB_bound 13 = .ok (.aload_n 0, 1) := by decide +kernel
theorem d_PB_bound_14 : decode c_PB_bound 14 = .ok (.iload_n 1, 1) := by decide +kernel
theorem d_PB_bound_15 : decode c_PB_bound 15 = .ok (.invokevirtual 63, 3) := by decide +kernel
theorem d_PB_bound_18 : decode c_PB_bound 18 = .ok (.ifCond .eq 12, 3) := by decide +kernel
theorem d_PB_bound_30 : decode c_PB_bound 30 = .ok (.iconst (-1), 1) := by decide +kernel
theorem d_PB_bound_31 : decode c_PB_bound 31 = .ok (.ireturn, 1) := by decide +kernel
set_option maxRecDepth 100000 in
set_option maxHeartbeats 4000000 in
/-- bound() -/
theorem f_PB_bound (l : Launch) (G : va_G) (k : Nat → ClassId) (h0 sz : Nat) (b re ru ne so be : Nat) (bp bu bs bf bq br : Nat) (x : Int32) : CI l y_PB_bound c_PB_bound 2 .int { frames := 2, cells := 0, slots := 0, locals := 41 } [.ref h0, .int x] G k sz [(h0, .inr (0, [.ref b, .ref re, .ref ru, .ref ne, .ref so, .ref be, .int 0, .int (-2), .int 0])), (be, .inr (3, [.ref bp, .ref bu, .ref bs, .ref bf, .ref bq, .ref br, .int 0, .int 0]))] (fun (r : Int32) (_ : Unit) => r = (-1)) (fun _ => []) 0 0 := by
  refine met_start (by decide) (Nat.le_of_ble_eq_true rfl) ?_
  intro p e s m below meth c C K hA hsz S ls hl
  generalize va_A [(h0, .inr (0, [.ref b, .ref re, .ref ru, .ref ne, .ref so, .ref be, .int 0, .int (-2), .int 0])), (be, .inr (3, [.ref bp, .ref bu, .ref bs, .ref bf, .ref bq, .ref br, .int 0, .int 0]))] sz = A at hA S ⊢
  have hx := C.1
  have hb := C.2.1
  have hl : lv_has ls 2 [(0, .ref h0), (1, .int x)] := hl
  refine lv_aload_n hx hb d_PB_bound_0 rfl (lv_at hl 0 rfl) ?_
  refine lv_iconst (v := 0) hx hb d_PB_bound_1 (by decide) ?_
  refine r_put C K S 0 rfl rfl clOk_PB 8 (by decide) wf_PB_103 rfl (ty := .boolean) (v := .int 0) (by decide +kernel) rfl rfl (Nat.le_of_ble_eq_true rfl) (fs' := [.ref b, .ref re, .ref ru, .ref ne, .ref so, .ref be, .int 0, .int (-2), .int 0]) (ws' := [(h0, .inr (0, [.ref b, .ref re, .ref ru, .ref ne, .ref so, .ref be, .int 0, .int (-2), .int 0])), (be, .inr (3, [.ref bp, .ref bu, .ref bs, .ref bf, .ref bq, .ref br, .int 0, .int 0]))]) rfl rfl d_PB_bound_2 (fun H locs S => ?_)
  refine lv_aload_n hx hb d_PB_bound_5 rfl (lv_at hl 0 rfl) ?_
  refine r_get C K S 0 rfl rfl clOk_PB 5 (by decide) wf_PB_25 (v := .ref be) rfl d_PB_bound_6 ?_
  refine lv_iconst (v := 0) hx hb d_PB_bound_9 (by decide) ?_
  refine r_putN C K S 1 rfl rfl clOk_Be 6 (by decide) xf_PB_107 rfl (ty := .boolean) (v := .int 0) (by decide +kernel) rfl rfl (Nat.le_of_ble_eq_true rfl) (fs' := [.ref bp, .ref bu, .ref bs, .ref bf, .ref bq, .ref br, .int 0, .int 0]) (ws' := [(h0, .inr (0, [.ref b, .ref re, .ref ru, .ref ne, .ref so, .ref be, .int 0, .int (-2), .int 0])), (be, .inr (3, [.ref bp, .ref bu, .ref bs, .ref bf, .ref bq, .ref br, .int 0, .int 0]))]) rfl rfl d_PB_bound_10 (fun H locs S => ?_)
  refine lv_aload_n hx hb d_PB_bound_13 rfl (lv_at hl 0 rfl) ?_
  refine lv_iload_n hx hb d_PB_bound_14 rfl (lv_at hl 1 rfl) ?_
  refine r_backi (wi := [(h0, .inr (0, [.ref b, .ref re, .ref ru, .ref ne, .ref so, .ref be, .int 0, .int (-2), .int 0]))]) (wr := [(be, .inr (3, [.ref bp, .ref bu, .ref bs, .ref bf, .ref bq, .ref br, .int 0, .int 0]))]) S hA [0] [1] rfl rfl (by decide) (by decide) (va_runV (As := [.int x]) (rest := []) ⟨hx, hb, C.2.2.1, C.2.2.2.1, C.2.2.2.2.1⟩ (f_PB_isFunction l G k h0 _ b re ru ne so be x) (k_virt (n := 1) C wc_PB_isFunction rfl rfl wz_PB wm_PB_63 wn_PB_isFunction ws_PB_isFunction (by decide +kernel) ⟨(Nat.le_of_ble_eq_true rfl), (Nat.le_of_ble_eq_true rfl)⟩) (pr_nowV K S [0] (by decide) rfl 0 rfl rfl) rfl rfl hl.1 rfl (lv_room (Nat.le_of_ble_eq_true rfl)) d_PB_bound_15 ⟨(Nat.le_of_ble_eq_true rfl), (Nat.le_of_ble_eq_true rfl)⟩) (fun r3 u1 H locs hw2 S => ?_)
  have S : Sw G A s.heap _ _ [(be, .inr (3, [.ref bp, .ref bu, .ref bs, .ref bf, .ref bq, .ref br, .int 0, .int 0])), (h0, .inr (0, [.ref b, .ref re, .ref ru, .ref ne, .ref so, .ref be, .int 0, .int (-2), .int 0]))] := S
  have hw2 : r3 = 0 := hw2
  subst hw2
  refine lv_if_eq (tgt := 30) hx hb d_PB_bound_18 (by decide) (fun _ => ?_) (fun hq => absurd (by decide) hq)
  refine lv_iconst (v := (-1)) hx hb d_PB_bound_30 (by decide) ?_
  exact r_iret C K rfl () rfl (S.sub [] rfl rfl) d_PB_bound_31 (Nat.le_of_ble_eq_true rfl) (Nat.le_of_ble_eq_true rfl)
theorem d_PB_scaled_0 : decode c_PB_scaled 0 = .ok (.iload_n 2, 1) := by decide +kernel
theorem d_PB_scaled_1 : decode c_PB_scaled 1 = .ok (.ifCond .lt 20, 3) := by decide +kernel
theorem d_PB_scaled_4 : decode c_PB_scaled 4 = .ok (.iload_n 2, 1) := by decide +kernel
theorem d_PB_scaled_5 : decode c_PB_scaled 5 = .ok (.bipush 40, 2) := by decide +kernel
theorem d_PB_scaled_7 : decode c_PB_scaled 7 = .ok (.if_icmp .gt 14, 3) := by decide +kernel
theorem d_PB_scaled_10 : decode c_PB_scaled 10 = .ok (.aload_n 0, 1) := by decide +kernel
theorem d_PB_scaled_11 : decode c_PB_scaled 11 = .ok (.getfield 25, 3) := by decide +kernel
theorem d_PB_scaled_14 : decode c_PB_scaled 14 = .ok (.iload_n 1, 1) := by decide +kernel
theorem d_PB_scaled_15 : decode c_PB_scaled 15 = .ok (.invokevirtual 133, 3) := by decide +kernel
theorem d_PB_scaled_18 : decode c_PB_scaled 18 = .ok (.ifCond .ne 7, 3) := by decide +kernel
theorem d_PB_scaled_21 : decode c_PB_scaled 21 = .ok (.ldc2_w 136, 3) := by decide +kernel
theorem d_PB_scaled_24 : decode c_PB_scaled 24 = .ok (.lreturn, 1) := by decide +kernel
set_option maxRecDepth 100000 in
set_option maxHeartbeats 4000000 in
/-- scaled() -/
theorem f_PB_scaled (l : Launch) (G : va_G) (k : Nat → ClassId) (h0 sz : Nat) (b re ru ne so be : Nat) (bp bu bs bf bq br : Nat) (x y : Int32) : CL l y_PB_scaled c_PB_scaled 3 { frames := 2, cells := 0, slots := 0, locals := 41 } [.ref h0, .int x, .int y] G k sz [(h0, .inr (0, [.ref b, .ref re, .ref ru, .ref ne, .ref so, .ref be, .int 0, .int (-2), .int 0])), (be, .inr (3, [.ref bp, .ref bu, .ref bs, .ref bf, .ref bq, .ref br, .int 0, .int 0]))] (fun (r : Int64) (_ : Unit) => r = (-2)) (fun _ => []) 0 0 := by
  refine met_start (by decide) (Nat.le_of_ble_eq_true rfl) ?_
  intro p e s m below meth c C K hA hsz S ls hl
  generalize va_A [(h0, .inr (0, [.ref b, .ref re, .ref ru, .ref ne, .ref so, .ref be, .int 0, .int (-2), .int 0])), (be, .inr (3, [.ref bp, .ref bu, .ref bs, .ref bf, .ref bq, .ref br, .int 0, .int 0]))] sz = A at hA S ⊢
  have hx := C.1
  have hb := C.2.1
  have hl : lv_has ls 3 [(0, .ref h0), (1, .int x), (2, .int y)] := hl
  refine lv_iload_n hx hb d_PB_scaled_0 rfl (lv_at hl 2 rfl) ?_
  refine lv_if_lt (tgt := 21) hx hb d_PB_scaled_1 (by decide) (fun hc1 => ?_) (fun hc1 => ?_)
  · refine lv_ldc2 (v := (-2)) hx hb C.2.2.2.1 (C.2.2.2.2.1 _ wk_PB_136) d_PB_scaled_21 ?_
    exact r_lret C K () rfl (S.sub [] rfl rfl) d_PB_scaled_24 (Nat.le_of_ble_eq_true rfl) (Nat.le_of_ble_eq_true rfl)
  · refine lv_iload_n hx hb d_PB_scaled_4 rfl (lv_at hl 2 rfl) ?_
    refine lv_bipush (v := 40) hx hb d_PB_scaled_5 (by decide) ?_
    refine lv_icmp_gt (tgt := 21) hx hb d_PB_scaled_7 (by decide) (fun hc2 => ?_) (fun hc2 => ?_)
    · refine lv_ldc2 (v := (-2)) hx hb C.2.2.2.1 (C.2.2.2.2.1 _ wk_PB_136) d_PB_scaled_21 ?_
      exact r_lret C K () rfl (S.sub [] rfl rfl) d_PB_scaled_24 (Nat.le_of_ble_eq_true rfl) (Nat.le_of_ble_eq_true rfl)
    · refine lv_aload_n hx hb d_PB_scaled_10 rfl (lv_at hl 0 rfl) ?_
      refine r_get C K S 0 rfl rfl clOk_PB 5 (by decide) wf_PB_25 (v := .ref be) rfl d_PB_scaled_11 ?_
      refine lv_iload_n hx hb d_PB_scaled_14 rfl (lv_at hl 1 rfl) ?_
      refine r_backi (wi := [(be, .inr (3, [.ref bp, .ref bu, .ref bs, .ref bf, .ref bq, .ref br, .int 0, .int 0]))]) (wr := [(h0, .inr (0, [.ref b, .ref re, .ref ru, .ref ne, .ref so, .ref be, .int 0, .int (-2), .int 0]))]) S hA [1] [0] rfl rfl (by decide) (by decide) (va_runVN (As := [.int x]) (rest := []) ⟨hx, hb, C.2.2.1, C.2.2.2.1, C.2.2.2.2.1⟩ (f_Be_has l G k be _ bp bu bs bf bq br x) (k_virtN (n := 1) C K wc_Be_has rfl rfl wz_Be xm_PB_133 wn_Be_has ws_Be_has (by decide +kernel) ⟨(Nat.le_of_ble_eq_true rfl), (Nat.le_of_ble_eq_true rfl)⟩) (pr_nowV K S [1] (by decide) rfl 1 rfl rfl) rfl rfl hl.1 rfl (lv_room (Nat.le_of_ble_eq_true rfl)) d_PB_scaled_15 ⟨(Nat.le_of_ble_eq_true rfl), (Nat.le_of_ble_eq_true rfl)⟩) (fun r5 u3 H locs hw4 S => ?_)
      have S : Sw G A s.heap _ _ [(h0, .inr (0, [.ref b, .ref re, .ref ru, .ref ne, .ref so, .ref be, .int 0, .int (-2), .int 0])), (be, .inr (3, [.ref bp, .ref bu, .ref bs, .ref bf, .ref bq, .ref br, .int 0, .int 0]))] := S
      have hw4 : r5 = 0 := hw4
      subst hw4
      refine lv_if_ne (tgt := 25) hx hb d_PB_scaled_18 (by decide) (fun hq => absurd (by decide) hq) (fun _ => ?_)
      refine lv_ldc2 (v := (-2)) hx hb C.2.2.2.1 (C.2.2.2.2.1 _ wk_PB_136) d_PB_scaled_21 ?_
      exact r_lret C K () rfl (S.sub [] rfl rfl) d_PB_scaled_24 (Nat.le_of_ble_eq_true rfl) (Nat.le_of_ble_eq_true rfl)
theorem d_PB_covers_0 : decode c_PB_covers 0 = .ok (.aload_n 0, 1) := by decide +kernel
theorem d_PB_covers_1 : decode c_PB_covers 1 = .ok (.getfield 25, 3) := by decide +kernel
theorem d_PB_covers_4 : decode c_PB_covers 4 = .ok (.getfield 107, 3) := by decide +kernel
theorem d_PB_covers_7 : decode c_PB_covers 7 = .ok (.ifCond .eq 15, 3) := by decide +kernel
theorem d_PB_covers_22 : decode c_PB_covers 22 = .ok (.bipush (-2), 2) := by decide +kernel
theorem d_PB_covers_24 : decode c_PB_covers 24 = .ok (.ireturn, 1) := by decide +kernel
set_option maxRecDepth 100000 in
set_option maxHeartbeats 4000000 in
/-- covers() -/
theorem f_PB_covers (l : Launch) (G : va_G) (k : Nat → ClassId) (h0 sz : Nat) (b re ru ne so be : Nat) (bp bu bs bf bq br : Nat) (x y z : Int32) (n : Int64) : CI l y_PB_covers c_PB_covers 6 .int { frames := 1, cells := 0, slots := 0, locals := 20 } [.ref h0, .int x, .int y, .int z, .long n] G k sz [(h0, .inr (0, [.ref b, .ref re, .ref ru, .ref ne, .ref so, .ref be, .int 0, .int (-2), .int 0])), (be, .inr (3, [.ref bp, .ref bu, .ref bs, .ref bf, .ref bq, .ref br, .int 0, .int 0]))] (fun (r : Int32) (_ : Unit) => r = (-2)) (fun _ => []) 0 0 := by
  refine met_start (by decide) (Nat.le_of_ble_eq_true rfl) ?_
  intro p e s m below meth c C K hA hsz S ls hl
  generalize va_A [(h0, .inr (0, [.ref b, .ref re, .ref ru, .ref ne, .ref so, .ref be, .int 0, .int (-2), .int 0])), (be, .inr (3, [.ref bp, .ref bu, .ref bs, .ref bf, .ref bq, .ref br, .int 0, .int 0]))] sz = A at hA S ⊢
  have hx := C.1
  have hb := C.2.1
  have hl : lv_has ls 6 [(0, .ref h0), (1, .int x), (2, .int y), (3, .int z), (4, .long n)] := hl
  refine lv_aload_n hx hb d_PB_covers_0 rfl (lv_at hl 0 rfl) ?_
  refine r_get C K S 0 rfl rfl clOk_PB 5 (by decide) wf_PB_25 (v := .ref be) rfl d_PB_covers_1 ?_
  refine r_getN C K S 1 rfl rfl clOk_Be 6 (by decide) xf_PB_107 (v := .int 0) rfl d_PB_covers_4 ?_
  refine lv_if_eq (tgt := 22) hx hb d_PB_covers_7 (by decide) (fun _ => ?_) (fun hq => absurd (by decide) hq)
  refine lv_bipush (v := (-2)) hx hb d_PB_covers_22 (by decide) ?_
  exact r_iret C K rfl () rfl (S.sub [] rfl rfl) d_PB_covers_24 (Nat.le_of_ble_eq_true rfl) (Nat.le_of_ble_eq_true rfl)
/-- what function answers first -/
def fnr (x : Int32) : Int32 := if x < 0 then -1 else if x ≤ 3 then 0 else -1
theorem d_PB_function_0 : decode c_PB_function 0 = .ok (.iload_n 1, 1) := by decide +kernel
theorem d_PB_function_1 : decode c_PB_function 1 = .ok (.ifCond .lt 8, 3) := by decide +kernel
theorem d_PB_function_4 : decode c_PB_function 4 = .ok (.iload_n 1, 1) := by decide +kernel
theorem d_PB_function_5 : decode c_PB_function 5 = .ok (.iconst 3, 1) := by decide +kernel
theorem d_PB_function_6 : decode c_PB_function 6 = .ok (.if_icmp .le 5, 3) := by decide +kernel
theorem d_PB_function_9 : decode c_PB_function 9 = .ok (.iconst (-1), 1) := by decide +kernel
theorem d_PB_function_10 : decode c_PB_function 10 = .ok (.ireturn, 1) := by decide +kernel
theorem d_PB_function_11 : decode c_PB_function 11 = .ok (.aload_n 0, 1) := by decide +kernel
theorem d_PB_function_12 : decode c_PB_function 12 = .ok (.getfield 57, 3) := by decide +kernel
theorem d_PB_function_15 : decode c_PB_function 15 = .ok (.iconst 4, 1) := by decide +kernel
theorem d_PB_function_16 : decode c_PB_function 16 = .ok (.if_icmp .ne 6, 3) := by decide +kernel
theorem d_PB_function_22 : decode c_PB_function 22 = .ok (.aload_n 0, 1) := by decide +kernel
theorem d_PB_function_23 : decode c_PB_function 23 = .ok (.getfield 11, 3) := by decide +kernel
theorem d_PB_function_26 : decode c_PB_function 26 = .ok (.aload_n 0, 1) := by decide +kernel
theorem d_PB_function_27 : decode c_PB_function 27 = .ok (.getfield 57, 3) := by decide +kernel
theorem d_PB_function_30 : decode c_PB_function 30 = .ok (.aaload, 1) := by decide +kernel
theorem d_PB_function_31 : decode c_PB_function 31 = .ok (.iload_n 1, 1) := by decide +kernel
theorem d_PB_function_32 : decode c_PB_function 32 = .ok (.putfield 60, 3) := by decide +kernel
theorem d_PB_function_35 : decode c_PB_function 35 = .ok (.aload_n 0, 1) := by decide +kernel
theorem d_PB_function_36 : decode c_PB_function 36 = .ok (.dup, 1) := by decide +kernel
theorem d_PB_function_37 : decode c_PB_function 37 = .ok (.getfield 57, 3) := by decide +kernel
theorem d_PB_function_40 : decode c_PB_function 40 = .ok (.iconst 1, 1) := by decide +kernel
theorem d_PB_function_41 : decode c_PB_function 41 = .ok (.iadd, 1) := by decide +kernel
theorem d_PB_function_42 : decode c_PB_function 42 = .ok (.putfield 57, 3) := by decide +kernel
theorem d_PB_function_45 : decode c_PB_function 45 = .ok (.aload_n 0, 1) := by decide +kernel
theorem d_PB_function_46 : decode c_PB_function 46 = .ok (.getfield 57, 3) := by decide +kernel
theorem d_PB_function_49 : decode c_PB_function 49 = .ok (.iconst 1, 1) := by decide +kernel
theorem d_PB_function_50 : decode c_PB_function 50 = .ok (.isub, 1) := by decide +kernel
theorem d_PB_function_51 : decode c_PB_function 51 = .ok (.ireturn, 1) := by decide +kernel
set_option maxRecDepth 100000 in
set_option maxHeartbeats 4000000 in
/-- function() -/
theorem f_PB_function (l : Launch) (G : va_G) (k : Nat → ClassId) (h0 sz : Nat) (b re ru ne so be : Nat) (b0 ba bb bc bd bg bh : Nat) (f : Nat → Option Nat) (hf : f 0 = some b0) (x : Int32) : CI l y_PB_function c_PB_function 2 .int { frames := 1, cells := 0, slots := 0, locals := 20 } [.ref h0, .int x] G k sz [(h0, .inr (0, [.ref b, .ref re, .ref ru, .ref ne, .ref so, .ref be, .int 0, .int (-2), .int 0])), (b, .inl (k 3, 4, .inr (.inr (.inr (.inr f))))), (b0, .inr (4, [.ref ba, .ref bb, .ref bc, .ref bd, .ref bg, .ref bh, .int 0, .int 0, .int 0]))] (fun (r : Int32) (_ : Unit) => r = fnr x) (fun _ => []) 0 0 := by
  refine met_start (by decide) (Nat.le_of_ble_eq_true rfl) ?_
  intro p e s m below meth c C K hA hsz S ls hl
  generalize va_A [(h0, .inr (0, [.ref b, .ref re, .ref ru, .ref ne, .ref so, .ref be, .int 0, .int (-2), .int 0])), (b, .inl (k 3, 4, .inr (.inr (.inr (.inr f))))), (b0, .inr (4, [.ref ba, .ref bb, .ref bc, .ref bd, .ref bg, .ref bh, .int 0, .int 0, .int 0]))] sz = A at hA S ⊢
  have hx := C.1
  have hb := C.2.1
  have hl : lv_has ls 2 [(0, .ref h0), (1, .int x)] := hl
  refine lv_iload_n hx hb d_PB_function_0 rfl (lv_at hl 1 rfl) ?_
  refine lv_if_lt (tgt := 9) hx hb d_PB_function_1 (by decide) (fun hc1 => ?_) (fun hc1 => ?_)
  · refine lv_iconst (v := (-1)) hx hb d_PB_function_9 (by decide) ?_
    exact r_iret C K rfl () (by simp [fnr, hc1]) (S.sub [] rfl rfl) d_PB_function_10 (Nat.le_of_ble_eq_true rfl) (Nat.le_of_ble_eq_true rfl)
  · refine lv_iload_n hx hb d_PB_function_4 rfl (lv_at hl 1 rfl) ?_
    refine lv_iconst (v := 3) hx hb d_PB_function_5 (by decide) ?_
    refine lv_icmp_le (tgt := 11) hx hb d_PB_function_6 (by decide) (fun hc2 => ?_) (fun hc2 => ?_)
    · refine lv_aload_n hx hb d_PB_function_11 rfl (lv_at hl 0 rfl) ?_
      refine r_get C K S 0 rfl rfl clOk_PB 6 (by decide) wf_PB_57 (v := .int 0) rfl d_PB_function_12 ?_
      refine lv_iconst (v := 4) hx hb d_PB_function_15 (by decide) ?_
      refine lv_icmp_ne (tgt := 22) hx hb d_PB_function_16 (by decide) (fun _ => ?_) (fun hq => absurd hq (by decide))
      refine lv_aload_n hx hb d_PB_function_22 rfl (lv_at hl 0 rfl) ?_
      refine r_get C K S 0 rfl rfl clOk_PB 0 (by decide) wf_PB_11 (v := .ref b) rfl d_PB_function_23 ?_
      refine lv_aload_n hx hb d_PB_function_26 rfl (lv_at hl 0 rfl) ?_
      refine r_get C K S 0 rfl rfl clOk_PB 6 (by decide) wf_PB_57 (v := .int 0) rfl d_PB_function_27 ?_
      refine r_aald C K S 1 3 rfl rfl (i := 0) (by unfold vp_in; decide) (b := b0) (by rw [show (0 : Int32).toNatClampNeg = 0 from by decide]; exact hf) d_PB_function_30 ?_
      refine lv_iload_n hx hb d_PB_function_31 rfl (lv_at hl 1 rfl) ?_
      refine r_putN C K S 2 rfl rfl clOk_Bo 6 (by decide) xf_PB_60 rfl (ty := .int) (v := .int x) (by decide +kernel) rfl rfl (Nat.le_of_ble_eq_true rfl) (fs' := [.ref ba, .ref bb, .ref bc, .ref bd, .ref bg, .ref bh, .int x, .int 0, .int 0]) (ws' := [(h0, .inr (0, [.ref b, .ref re, .ref ru, .ref ne, .ref so, .ref be, .int 0, .int (-2), .int 0])), (b, .inl (k 3, 4, .inr (.inr (.inr (.inr f))))), (b0, .inr (4, [.ref ba, .ref bb, .ref bc, .ref bd, .ref bg, .ref bh, .int x, .int 0, .int 0]))]) rfl rfl d_PB_function_32 (fun H locs S => ?_)
      refine lv_aload_n hx hb d_PB_function_35 rfl (lv_at hl 0 rfl) ?_
      refine lv_dup hx hb d_PB_function_36 rfl ?_
      refine r_get C K S 0 rfl rfl clOk_PB 6 (by decide) wf_PB_57 (v := .int 0) rfl d_PB_function_37 ?_
      refine lv_iconst (v := 1) hx hb d_PB_function_40 (by decide) ?_
      refine lv_iadd hx hb d_PB_function_41 ?_
      rw [show (0 : Int32) + 1 = 1 from by decide]
      refine r_put C K S 0 rfl rfl clOk_PB 6 (by decide) wf_PB_57 rfl (ty := .int) (v := .int 1) (by decide +kernel) rfl rfl (Nat.le_of_ble_eq_true rfl) (fs' := [.ref b, .ref re, .ref ru, .ref ne, .ref so, .ref be, .int 1, .int (-2), .int 0]) (ws' := [(h0, .inr (0, [.ref b, .ref re, .ref ru, .ref ne, .ref so, .ref be, .int 1, .int (-2), .int 0])), (b, .inl (k 3, 4, .inr (.inr (.inr (.inr f))))), (b0, .inr (4, [.ref ba, .ref bb, .ref bc, .ref bd, .ref bg, .ref bh, .int x, .int 0, .int 0]))]) rfl rfl d_PB_function_42 (fun H locs S => ?_)
      refine lv_aload_n hx hb d_PB_function_45 rfl (lv_at hl 0 rfl) ?_
      refine r_get C K S 0 rfl rfl clOk_PB 6 (by decide) wf_PB_57 (v := .int 1) rfl d_PB_function_46 ?_
      refine lv_iconst (v := 1) hx hb d_PB_function_49 (by decide) ?_
      refine lv_isub hx hb d_PB_function_50 ?_
      rw [show (1 : Int32) - 1 = 0 from by decide]
      exact r_iret C K rfl () (by simp [fnr, hc1, hc2]) (S.sub [] rfl rfl) d_PB_function_51 (Nat.le_of_ble_eq_true rfl) (Nat.le_of_ble_eq_true rfl)
    · refine lv_iconst (v := (-1)) hx hb d_PB_function_9 (by decide) ?_
      exact r_iret C K rfl () (by simp [fnr, hc1, hc2]) (S.sub [] rfl rfl) d_PB_function_10 (Nat.le_of_ble_eq_true rfl) (Nat.le_of_ble_eq_true rfl)
theorem d_Mo_isFunction_0 : decode c_Mo_isFunction 0 = .ok (.iload_n 1, 1) := by decide +kernel
theorem d_Mo_isFunction_1 : decode c_Mo_isFunction 1 = .ok (.ifCond .lt 15, 3) := by decide +kernel
theorem d_Mo_isFunction_4 : decode c_Mo_isFunction 4 = .ok (.iload_n 1, 1) := by decide +kernel
theorem d_Mo_isFunction_5 : decode c_Mo_isFunction 5 = .ok (.aload_n 0, 1) := by decide +kernel
theorem d_Mo_isFunction_6 : decode c_Mo_isFunction 6 = .ok (.getfield 111, 3) := by decide +kernel
theorem d_Mo_isFunction_9 : decode c_Mo_isFunction 9 = .ok (.if_icmp .ge 7, 3) := by decide +kernel
theorem d_Mo_isFunction_16 : decode c_Mo_isFunction 16 = .ok (.iconst 0, 1) := by decide +kernel
theorem d_Mo_isFunction_17 : decode c_Mo_isFunction 17 = .ok (.ireturn, 1) := by decide +kernel
set_option maxRecDepth 100000 in
set_option maxHeartbeats 4000000 in
/-- isFunction: there is none -/
theorem f_Mo_isFunction (l : Launch) (G : va_G) (k : Nat → ClassId) (h0 sz : Nat) (ma : Nat → Nat) (x : Int32) : CI l y_Mo_isFunction c_Mo_isFunction 2 .boolean { frames := 1, cells := 0, slots := 0, locals := 20 } [.ref h0, .int x] G k sz [(h0, .inr (8, [.int 0, .ref (ma 0), .ref (ma 1), .ref (ma 2), .int (-2), .ref (ma 3), .ref (ma 4), .ref (ma 5), .ref (ma 6), .int 0, .long 0, .int (-2), .int 0, .ref (ma 7), .ref (ma 8), .ref (ma 9), .ref (ma 10), .ref (ma 11), .int 0, .ref (ma 12), .int 0, .int 0, .int 0, .int 0, .int 0, .int 0, .int 0, .ref (ma 13), .int 0, .int 0, .int 0, .int 0, .ref (ma 14), .ref (ma 15), .int 0, .ref (ma 16), .ref (ma 17), .ref (ma 18), .ref (ma 19), .ref (ma 20), .int 0, .ref (ma 21), .ref (ma 22), .ref (ma 23), .ref (ma 24), .ref (ma 25), .ref (ma 26), .ref (ma 27), .int 0, .int 0, .int 0, .int 0, .int 0, .int 0, .int 0, .ref (ma 28), .ref (ma 29), .int 0, .int 0, .int 0, .int 0]))] (fun (r : Int32) (_ : Unit) => r = 0) (fun _ => [(h0, .inr (8, [.int 0, .ref (ma 0), .ref (ma 1), .ref (ma 2), .int (-2), .ref (ma 3), .ref (ma 4), .ref (ma 5), .ref (ma 6), .int 0, .long 0, .int (-2), .int 0, .ref (ma 7), .ref (ma 8), .ref (ma 9), .ref (ma 10), .ref (ma 11), .int 0, .ref (ma 12), .int 0, .int 0, .int 0, .int 0, .int 0, .int 0, .int 0, .ref (ma 13), .int 0, .int 0, .int 0, .int 0, .ref (ma 14), .ref (ma 15), .int 0, .ref (ma 16), .ref (ma 17), .ref (ma 18), .ref (ma 19), .ref (ma 20), .int 0, .ref (ma 21), .ref (ma 22), .ref (ma 23), .ref (ma 24), .ref (ma 25), .ref (ma 26), .ref (ma 27), .int 0, .int 0, .int 0, .int 0, .int 0, .int 0, .int 0, .ref (ma 28), .ref (ma 29), .int 0, .int 0, .int 0, .int 0]))]) 0 0 := by
  refine met_start (by decide) (Nat.le_of_ble_eq_true rfl) ?_
  intro p e s m below meth c C K hA hsz S ls hl
  generalize va_A [(h0, .inr (8, [.int 0, .ref (ma 0), .ref (ma 1), .ref (ma 2), .int (-2), .ref (ma 3), .ref (ma 4), .ref (ma 5), .ref (ma 6), .int 0, .long 0, .int (-2), .int 0, .ref (ma 7), .ref (ma 8), .ref (ma 9), .ref (ma 10), .ref (ma 11), .int 0, .ref (ma 12), .int 0, .int 0, .int 0, .int 0, .int 0, .int 0, .int 0, .ref (ma 13), .int 0, .int 0, .int 0, .int 0, .ref (ma 14), .ref (ma 15), .int 0, .ref (ma 16), .ref (ma 17), .ref (ma 18), .ref (ma 19), .ref (ma 20), .int 0, .ref (ma 21), .ref (ma 22), .ref (ma 23), .ref (ma 24), .ref (ma 25), .ref (ma 26), .ref (ma 27), .int 0, .int 0, .int 0, .int 0, .int 0, .int 0, .int 0, .ref (ma 28), .ref (ma 29), .int 0, .int 0, .int 0, .int 0]))] sz = A at hA S ⊢
  have hx := C.1
  have hb := C.2.1
  have hl : lv_has ls 2 [(0, .ref h0), (1, .int x)] := hl
  refine lv_iload_n hx hb d_Mo_isFunction_0 rfl (lv_at hl 1 rfl) ?_
  refine lv_if_lt (tgt := 16) hx hb d_Mo_isFunction_1 (by decide) (fun hc1 => ?_) (fun hc1 => ?_)
  · refine lv_iconst (v := 0) hx hb d_Mo_isFunction_16 (by decide) ?_
    exact r_iret C K rfl () rfl (S.sub [0] rfl rfl) d_Mo_isFunction_17 (Nat.le_of_ble_eq_true rfl) (Nat.le_of_ble_eq_true rfl)
  · refine lv_iload_n hx hb d_Mo_isFunction_4 rfl (lv_at hl 1 rfl) ?_
    refine lv_aload_n hx hb d_Mo_isFunction_5 rfl (lv_at hl 0 rfl) ?_
    refine r_get C K S 0 rfl rfl clOk_Mo 0 (by decide) wf_Mo_111 (v := .int 0) rfl d_Mo_isFunction_6 ?_
    refine lv_icmp_ge (tgt := 16) hx hb d_Mo_isFunction_9 (by decide) (fun _ => ?_) (fun hq => absurd (Int32.not_lt.mp hc1) hq)
    refine lv_iconst (v := 0) hx hb d_Mo_isFunction_16 (by decide) ?_
    exact r_iret C K rfl () rfl (S.sub [0] rfl rfl) d_Mo_isFunction_17 (Nat.le_of_ble_eq_true rfl) (Nat.le_of_ble_eq_true rfl)
theorem d_Mo_place_0 : decode c_Mo_place 0 = .ok (.aload_n 0, 1) := by decide +kernel
theorem d_Mo_place_1 : decode c_Mo_place 1 = .ok (.getfield 19, 3) := by decide +kernel
theorem d_Mo_place_4 : decode c_Mo_place 4 = .ok (.ireturn, 1) := by decide +kernel
set_option maxRecDepth 100000 in
set_option maxHeartbeats 4000000 in
/-- place() -/
theorem f_Mo_place (l : Launch) (G : va_G) (k : Nat → ClassId) (h0 sz : Nat) (ma : Nat → Nat) : CI l y_Mo_place c_Mo_place 1 .int { frames := 1, cells := 0, slots := 0, locals := 20 } [.ref h0] G k sz [(h0, .inr (8, [.int 0, .ref (ma 0), .ref (ma 1), .ref (ma 2), .int (-2), .ref (ma 3), .ref (ma 4), .ref (ma 5), .ref (ma 6), .int 0, .long 0, .int (-2), .int 0, .ref (ma 7), .ref (ma 8), .ref (ma 9), .ref (ma 10), .ref (ma 11), .int 0, .ref (ma 12), .int 0, .int 0, .int 0, .int 0, .int 0, .int 0, .int 0, .ref (ma 13), .int 0, .int 0, .int 0, .int 0, .ref (ma 14), .ref (ma 15), .int 0, .ref (ma 16), .ref (ma 17), .ref (ma 18), .ref (ma 19), .ref (ma 20), .int 0, .ref (ma 21), .ref (ma 22), .ref (ma 23), .ref (ma 24), .ref (ma 25), .ref (ma 26), .ref (ma 27), .int 0, .int 0, .int 0, .int 0, .int 0, .int 0, .int 0, .ref (ma 28), .ref (ma 29), .int 0, .int 0, .int 0, .int 0]))] (fun (r : Int32) (_ : Unit) => r = (-2)) (fun _ => []) 0 0 := by
  refine met_start (by decide) (Nat.le_of_ble_eq_true rfl) ?_
  intro p e s m below meth c C K hA hsz S ls hl
  generalize va_A [(h0, .inr (8, [.int 0, .ref (ma 0), .ref (ma 1), .ref (ma 2), .int (-2), .ref (ma 3), .ref (ma 4), .ref (ma 5), .ref (ma 6), .int 0, .long 0, .int (-2), .int 0, .ref (ma 7), .ref (ma 8), .ref (ma 9), .ref (ma 10), .ref (ma 11), .int 0, .ref (ma 12), .int 0, .int 0, .int 0, .int 0, .int 0, .int 0, .int 0, .ref (ma 13), .int 0, .int 0, .int 0, .int 0, .ref (ma 14), .ref (ma 15), .int 0, .ref (ma 16), .ref (ma 17), .ref (ma 18), .ref (ma 19), .ref (ma 20), .int 0, .ref (ma 21), .ref (ma 22), .ref (ma 23), .ref (ma 24), .ref (ma 25), .ref (ma 26), .ref (ma 27), .int 0, .int 0, .int 0, .int 0, .int 0, .int 0, .int 0, .ref (ma 28), .ref (ma 29), .int 0, .int 0, .int 0, .int 0]))] sz = A at hA S ⊢
  have hx := C.1
  have hb := C.2.1
  have hl : lv_has ls 1 [(0, .ref h0)] := hl
  refine lv_aload_n hx hb d_Mo_place_0 rfl (lv_at hl 0 rfl) ?_
  refine r_get C K S 0 rfl rfl clOk_Mo 4 (by decide) wf_Mo_19 (v := .int (-2)) rfl d_Mo_place_1 ?_
  exact r_iret C K rfl () rfl (S.sub [] rfl rfl) d_Mo_place_4 (Nat.le_of_ble_eq_true rfl) (Nat.le_of_ble_eq_true rfl)
theorem d_Mo_word_0 : decode c_Mo_word 0 = .ok (.aload_n 0, 1) := by decide +kernel
theorem d_Mo_word_1 : decode c_Mo_word 1 = .ok (.iload_n 1, 1) := by decide +kernel
theorem d_Mo_word_2 : decode c_Mo_word 2 = .ok (.invokevirtual 114, 3) := by decide +kernel
theorem d_Mo_word_5 : decode c_Mo_word 5 = .ok (.ifCond .ne 5, 3) := by decide +kernel
theorem d_Mo_word_8 : decode c_Mo_word 8 = .ok (.iconst (-1), 1) := by decide +kernel
theorem d_Mo_word_9 : decode c_Mo_word 9 = .ok (.ireturn, 1) := by decide +kernel
set_option maxRecDepth 100000 in
set_option maxHeartbeats 4000000 in
/-- word() -/
theorem f_Mo_word (l : Launch) (G : va_G) (k : Nat → ClassId) (h0 sz : Nat) (ma : Nat → Nat) (x y : Int32) : CI l y_Mo_word c_Mo_word 3 .int { frames := 2, cells := 0, slots := 0, locals := 41 } [.ref h0, .int x, .int y] G k sz [(h0, .inr (8, [.int 0, .ref (ma 0), .ref (ma 1), .ref (ma 2), .int (-2), .ref (ma 3), .ref (ma 4), .ref (ma 5), .ref (ma 6), .int 0, .long 0, .int (-2), .int 0, .ref (ma 7), .ref (ma 8), .ref (ma 9), .ref (ma 10), .ref (ma 11), .int 0, .ref (ma 12), .int 0, .int 0, .int 0, .int 0, .int 0, .int 0, .int 0, .ref (ma 13), .int 0, .int 0, .int 0, .int 0, .ref (ma 14), .ref (ma 15), .int 0, .ref (ma 16), .ref (ma 17), .ref (ma 18), .ref (ma 19), .ref (ma 20), .int 0, .ref (ma 21), .ref (ma 22), .ref (ma 23), .ref (ma 24), .ref (ma 25), .ref (ma 26), .ref (ma 27), .int 0, .int 0, .int 0, .int 0, .int 0, .int 0, .int 0, .ref (ma 28), .ref (ma 29), .int 0, .int 0, .int 0, .int 0]))] (fun (r : Int32) (_ : Unit) => r = (-1)) (fun _ => []) 0 0 := by
  refine met_start (by decide) (Nat.le_of_ble_eq_true rfl) ?_
  intro p e s m below meth c C K hA hsz S ls hl
  generalize va_A [(h0, .inr (8, [.int 0, .ref (ma 0), .ref (ma 1), .ref (ma 2), .int (-2), .ref (ma 3), .ref (ma 4), .ref (ma 5), .ref (ma 6), .int 0, .long 0, .int (-2), .int 0, .ref (ma 7), .ref (ma 8), .ref (ma 9), .ref (ma 10), .ref (ma 11), .int 0, .ref (ma 12), .int 0, .int 0, .int 0, .int 0, .int 0, .int 0, .int 0, .ref (ma 13), .int 0, .int 0, .int 0, .int 0, .ref (ma 14), .ref (ma 15), .int 0, .ref (ma 16), .ref (ma 17), .ref (ma 18), .ref (ma 19), .ref (ma 20), .int 0, .ref (ma 21), .ref (ma 22), .ref (ma 23), .ref (ma 24), .ref (ma 25), .ref (ma 26), .ref (ma 27), .int 0, .int 0, .int 0, .int 0, .int 0, .int 0, .int 0, .ref (ma 28), .ref (ma 29), .int 0, .int 0, .int 0, .int 0]))] sz = A at hA S ⊢
  have hx := C.1
  have hb := C.2.1
  have hl : lv_has ls 3 [(0, .ref h0), (1, .int x), (2, .int y)] := hl
  refine lv_aload_n hx hb d_Mo_word_0 rfl (lv_at hl 0 rfl) ?_
  refine lv_iload_n hx hb d_Mo_word_1 rfl (lv_at hl 1 rfl) ?_
  refine r_backi (wi := [(h0, .inr (8, [.int 0, .ref (ma 0), .ref (ma 1), .ref (ma 2), .int (-2), .ref (ma 3), .ref (ma 4), .ref (ma 5), .ref (ma 6), .int 0, .long 0, .int (-2), .int 0, .ref (ma 7), .ref (ma 8), .ref (ma 9), .ref (ma 10), .ref (ma 11), .int 0, .ref (ma 12), .int 0, .int 0, .int 0, .int 0, .int 0, .int 0, .int 0, .ref (ma 13), .int 0, .int 0, .int 0, .int 0, .ref (ma 14), .ref (ma 15), .int 0, .ref (ma 16), .ref (ma 17), .ref (ma 18), .ref (ma 19), .ref (ma 20), .int 0, .ref (ma 21), .ref (ma 22), .ref (ma 23), .ref (ma 24), .ref (ma 25), .ref (ma 26), .ref (ma 27), .int 0, .int 0, .int 0, .int 0, .int 0, .int 0, .int 0, .ref (ma 28), .ref (ma 29), .int 0, .int 0, .int 0, .int 0]))]) (wr := []) S hA [0] [] rfl rfl (by decide) (by decide) (va_runV (As := [.int x]) (rest := []) ⟨hx, hb, C.2.2.1, C.2.2.2.1, C.2.2.2.2.1⟩ (f_Mo_isFunction l G k h0 _ ma x) (k_virt (n := 1) C wc_Mo_isFunction rfl rfl wz_Mo wm_Mo_114 wn_Mo_isFunction ws_Mo_isFunction (by decide +kernel) ⟨(Nat.le_of_ble_eq_true rfl), (Nat.le_of_ble_eq_true rfl)⟩) (pr_nowV K S [0] (by decide) rfl 0 rfl rfl) rfl rfl hl.1 rfl (lv_room (Nat.le_of_ble_eq_true rfl)) d_Mo_word_2 ⟨(Nat.le_of_ble_eq_true rfl), (Nat.le_of_ble_eq_true rfl)⟩) (fun r3 u1 H locs hw2 S => ?_)
  have S : Sw G A s.heap _ _ [(h0, .inr (8, [.int 0, .ref (ma 0), .ref (ma 1), .ref (ma 2), .int (-2), .ref (ma 3), .ref (ma 4), .ref (ma 5), .ref (ma 6), .int 0, .long 0, .int (-2), .int 0, .ref (ma 7), .ref (ma 8), .ref (ma 9), .ref (ma 10), .ref (ma 11), .int 0, .ref (ma 12), .int 0, .int 0, .int 0, .int 0, .int 0, .int 0, .int 0, .ref (ma 13), .int 0, .int 0, .int 0, .int 0, .ref (ma 14), .ref (ma 15), .int 0, .ref (ma 16), .ref (ma 17), .ref (ma 18), .ref (ma 19), .ref (ma 20), .int 0, .ref (ma 21), .ref (ma 22), .ref (ma 23), .ref (ma 24), .ref (ma 25), .ref (ma 26), .ref (ma 27), .int 0, .int 0, .int 0, .int 0, .int 0, .int 0, .int 0, .ref (ma 28), .ref (ma 29), .int 0, .int 0, .int 0, .int 0]))] := S
  have hw2 : r3 = 0 := hw2
  subst hw2
  refine lv_if_ne (tgt := 10) hx hb d_Mo_word_5 (by decide) (fun hq => absurd (by decide) hq) (fun _ => ?_)
  refine lv_iconst (v := (-1)) hx hb d_Mo_word_8 (by decide) ?_
  exact r_iret C K rfl () rfl (S.sub [] rfl rfl) d_Mo_word_9 (Nat.le_of_ble_eq_true rfl) (Nat.le_of_ble_eq_true rfl)
theorem d_Mo_cut_0 : decode c_Mo_cut 0 = .ok (.aload_n 0, 1) := by decide +kernel
theorem d_Mo_cut_1 : decode c_Mo_cut 1 = .ok (.iload_n 1, 1) := by decide +kernel
theorem d_Mo_cut_2 : decode c_Mo_cut 2 = .ok (.invokevirtual 114, 3) := by decide +kernel
theorem d_Mo_cut_5 : decode c_Mo_cut 5 = .ok (.ifCond .eq 17, 3) := by decide +kernel
theorem d_Mo_cut_22 : decode c_Mo_cut 22 = .ok (.iconst 0, 1) := by decide +kernel
theorem d_Mo_cut_23 : decode c_Mo_cut 23 = .ok (.ireturn, 1) := by decide +kernel
set_option maxRecDepth 100000 in
set_option maxHeartbeats 4000000 in
/-- cut() -/
theorem f_Mo_cut (l : Launch) (G : va_G) (k : Nat → ClassId) (h0 sz : Nat) (ma : Nat → Nat) (x y : Int32) : CI l y_Mo_cut c_Mo_cut 3 .boolean { frames := 2, cells := 0, slots := 0, locals := 41 } [.ref h0, .int x, .int y] G k sz [(h0, .inr (8, [.int 0, .ref (ma 0), .ref (ma 1), .ref (ma 2), .int (-2), .ref (ma 3), .ref (ma 4), .ref (ma 5), .ref (ma 6), .int 0, .long 0, .int (-2), .int 0, .ref (ma 7), .ref (ma 8), .ref (ma 9), .ref (ma 10), .ref (ma 11), .int 0, .ref (ma 12), .int 0, .int 0, .int 0, .int 0, .int 0, .int 0, .int 0, .ref (ma 13), .int 0, .int 0, .int 0, .int 0, .ref (ma 14), .ref (ma 15), .int 0, .ref (ma 16), .ref (ma 17), .ref (ma 18), .ref (ma 19), .ref (ma 20), .int 0, .ref (ma 21), .ref (ma 22), .ref (ma 23), .ref (ma 24), .ref (ma 25), .ref (ma 26), .ref (ma 27), .int 0, .int 0, .int 0, .int 0, .int 0, .int 0, .int 0, .ref (ma 28), .ref (ma 29), .int 0, .int 0, .int 0, .int 0]))] (fun (r : Int32) (_ : Unit) => r = 0) (fun _ => []) 0 0 := by
  refine met_start (by decide) (Nat.le_of_ble_eq_true rfl) ?_
  intro p e s m below meth c C K hA hsz S ls hl
  generalize va_A [(h0, .inr (8, [.int 0, .ref (ma 0), .ref (ma 1), .ref (ma 2), .int (-2), .ref (ma 3), .ref (ma 4), .ref (ma 5), .ref (ma 6), .int 0, .long 0, .int (-2), .int 0, .ref (ma 7), .ref (ma 8), .ref (ma 9), .ref (ma 10), .ref (ma 11), .int 0, .ref (ma 12), .int 0, .int 0, .int 0, .int 0, .int 0, .int 0, .int 0, .ref (ma 13), .int 0, .int 0, .int 0, .int 0, .ref (ma 14), .ref (ma 15), .int 0, .ref (ma 16), .ref (ma 17), .ref (ma 18), .ref (ma 19), .ref (ma 20), .int 0, .ref (ma 21), .ref (ma 22), .ref (ma 23), .ref (ma 24), .ref (ma 25), .ref (ma 26), .ref (ma 27), .int 0, .int 0, .int 0, .int 0, .int 0, .int 0, .int 0, .ref (ma 28), .ref (ma 29), .int 0, .int 0, .int 0, .int 0]))] sz = A at hA S ⊢
  have hx := C.1
  have hb := C.2.1
  have hl : lv_has ls 3 [(0, .ref h0), (1, .int x), (2, .int y)] := hl
  refine lv_aload_n hx hb d_Mo_cut_0 rfl (lv_at hl 0 rfl) ?_
  refine lv_iload_n hx hb d_Mo_cut_1 rfl (lv_at hl 1 rfl) ?_
  refine r_backi (wi := [(h0, .inr (8, [.int 0, .ref (ma 0), .ref (ma 1), .ref (ma 2), .int (-2), .ref (ma 3), .ref (ma 4), .ref (ma 5), .ref (ma 6), .int 0, .long 0, .int (-2), .int 0, .ref (ma 7), .ref (ma 8), .ref (ma 9), .ref (ma 10), .ref (ma 11), .int 0, .ref (ma 12), .int 0, .int 0, .int 0, .int 0, .int 0, .int 0, .int 0, .ref (ma 13), .int 0, .int 0, .int 0, .int 0, .ref (ma 14), .ref (ma 15), .int 0, .ref (ma 16), .ref (ma 17), .ref (ma 18), .ref (ma 19), .ref (ma 20), .int 0, .ref (ma 21), .ref (ma 22), .ref (ma 23), .ref (ma 24), .ref (ma 25), .ref (ma 26), .ref (ma 27), .int 0, .int 0, .int 0, .int 0, .int 0, .int 0, .int 0, .ref (ma 28), .ref (ma 29), .int 0, .int 0, .int 0, .int 0]))]) (wr := []) S hA [0] [] rfl rfl (by decide) (by decide) (va_runV (As := [.int x]) (rest := []) ⟨hx, hb, C.2.2.1, C.2.2.2.1, C.2.2.2.2.1⟩ (f_Mo_isFunction l G k h0 _ ma x) (k_virt (n := 1) C wc_Mo_isFunction rfl rfl wz_Mo wm_Mo_114 wn_Mo_isFunction ws_Mo_isFunction (by decide +kernel) ⟨(Nat.le_of_ble_eq_true rfl), (Nat.le_of_ble_eq_true rfl)⟩) (pr_nowV K S [0] (by decide) rfl 0 rfl rfl) rfl rfl hl.1 rfl (lv_room (Nat.le_of_ble_eq_true rfl)) d_Mo_cut_2 ⟨(Nat.le_of_ble_eq_true rfl), (Nat.le_of_ble_eq_true rfl)⟩) (fun r3 u1 H locs hw2 S => ?_)
  have S : Sw G A s.heap _ _ [(h0, .inr (8, [.int 0, .ref (ma 0), .ref (ma 1), .ref (ma 2), .int (-2), .ref (ma 3), .ref (ma 4), .ref (ma 5), .ref (ma 6), .int 0, .long 0, .int (-2), .int 0, .ref (ma 7), .ref (ma 8), .ref (ma 9), .ref (ma 10), .ref (ma 11), .int 0, .ref (ma 12), .int 0, .int 0, .int 0, .int 0, .int 0, .int 0, .int 0, .ref (ma 13), .int 0, .int 0, .int 0, .int 0, .ref (ma 14), .ref (ma 15), .int 0, .ref (ma 16), .ref (ma 17), .ref (ma 18), .ref (ma 19), .ref (ma 20), .int 0, .ref (ma 21), .ref (ma 22), .ref (ma 23), .ref (ma 24), .ref (ma 25), .ref (ma 26), .ref (ma 27), .int 0, .int 0, .int 0, .int 0, .int 0, .int 0, .int 0, .ref (ma 28), .ref (ma 29), .int 0, .int 0, .int 0, .int 0]))] := S
  have hw2 : r3 = 0 := hw2
  subst hw2
  refine lv_if_eq (tgt := 22) hx hb d_Mo_cut_5 (by decide) (fun _ => ?_) (fun hq => absurd (by decide) hq)
  refine lv_iconst (v := 0) hx hb d_Mo_cut_22 (by decide) ?_
  exact r_iret C K rfl () rfl (S.sub [] rfl rfl) d_Mo_cut_23 (Nat.le_of_ble_eq_true rfl) (Nat.le_of_ble_eq_true rfl)
theorem d_Mo_look_0 : decode c_Mo_look 0 = .ok (.aload_n 0, 1) := by decide +kernel
theorem d_Mo_look_1 : decode c_Mo_look 1 = .ok (.bipush (-2), 2) := by decide +kernel
theorem d_Mo_look_3 : decode c_Mo_look 3 = .ok (.putfield 19, 3) := by decide +kernel
theorem d_Mo_look_6 : decode c_Mo_look 6 = .ok (.iconst 0, 1) := by decide +kernel
theorem d_Mo_look_7 : decode c_Mo_look 7 = .ok (.istore_n 1, 1) := by decide +kernel
theorem d_Mo_look_8 : decode c_Mo_look 8 = .ok (.iload_n 1, 1) := by decide +kernel
theorem d_Mo_look_9 : decode c_Mo_look 9 = .ok (.aload_n 0, 1) := by decide +kernel
theorem d_Mo_look_10 : decode c_Mo_look 10 = .ok (.getfield 111, 3) := by decide +kernel
theorem d_Mo_look_13 : decode c_Mo_look 13 = .ok (.if_icmp .ge 31, 3) := by decide +kernel
theorem d_Mo_look_44 : decode c_Mo_look 44 = .ok (.iconst 0, 1) := by decide +kernel
theorem d_Mo_look_45 : decode c_Mo_look 45 = .ok (.ireturn, 1) := by decide +kernel
set_option maxRecDepth 100000 in
set_option maxHeartbeats 4000000 in
/-- look() -/
theorem f_Mo_look (l : Launch) (G : va_G) (k : Nat → ClassId) (h0 sz : Nat) (ma : Nat → Nat) : CI l y_Mo_look c_Mo_look 3 .int { frames := 1, cells := 0, slots := 0, locals := 20 } [.ref h0] G k sz [(h0, .inr (8, [.int 0, .ref (ma 0), .ref (ma 1), .ref (ma 2), .int (-2), .ref (ma 3), .ref (ma 4), .ref (ma 5), .ref (ma 6), .int 0, .long 0, .int (-2), .int 0, .ref (ma 7), .ref (ma 8), .ref (ma 9), .ref (ma 10), .ref (ma 11), .int 0, .ref (ma 12), .int 0, .int 0, .int 0, .int 0, .int 0, .int 0, .int 0, .ref (ma 13), .int 0, .int 0, .int 0, .int 0, .ref (ma 14), .ref (ma 15), .int 0, .ref (ma 16), .ref (ma 17), .ref (ma 18), .ref (ma 19), .ref (ma 20), .int 0, .ref (ma 21), .ref (ma 22), .ref (ma 23), .ref (ma 24), .ref (ma 25), .ref (ma 26), .ref (ma 27), .int 0, .int 0, .int 0, .int 0, .int 0, .int 0, .int 0, .ref (ma 28), .ref (ma 29), .int 0, .int 0, .int 0, .int 0]))] (fun (r : Int32) (_ : Unit) => r = 0) (fun _ => []) 0 0 := by
  refine met_start (by decide) (Nat.le_of_ble_eq_true rfl) ?_
  intro p e s m below meth c C K hA hsz S ls hl
  generalize va_A [(h0, .inr (8, [.int 0, .ref (ma 0), .ref (ma 1), .ref (ma 2), .int (-2), .ref (ma 3), .ref (ma 4), .ref (ma 5), .ref (ma 6), .int 0, .long 0, .int (-2), .int 0, .ref (ma 7), .ref (ma 8), .ref (ma 9), .ref (ma 10), .ref (ma 11), .int 0, .ref (ma 12), .int 0, .int 0, .int 0, .int 0, .int 0, .int 0, .int 0, .ref (ma 13), .int 0, .int 0, .int 0, .int 0, .ref (ma 14), .ref (ma 15), .int 0, .ref (ma 16), .ref (ma 17), .ref (ma 18), .ref (ma 19), .ref (ma 20), .int 0, .ref (ma 21), .ref (ma 22), .ref (ma 23), .ref (ma 24), .ref (ma 25), .ref (ma 26), .ref (ma 27), .int 0, .int 0, .int 0, .int 0, .int 0, .int 0, .int 0, .ref (ma 28), .ref (ma 29), .int 0, .int 0, .int 0, .int 0]))] sz = A at hA S ⊢
  have hx := C.1
  have hb := C.2.1
  have hl : lv_has ls 3 [(0, .ref h0)] := hl
  refine lv_aload_n hx hb d_Mo_look_0 rfl (lv_at hl 0 rfl) ?_
  refine lv_bipush (v := (-2)) hx hb d_Mo_look_1 (by decide) ?_
  refine r_put C K S 0 rfl rfl clOk_Mo 4 (by decide) wf_Mo_19 rfl (ty := .int) (v := .int (-2)) (by decide +kernel) rfl rfl (Nat.le_of_ble_eq_true rfl) (fs' := [.int 0, .ref (ma 0), .ref (ma 1), .ref (ma 2), .int (-2), .ref (ma 3), .ref (ma 4), .ref (ma 5), .ref (ma 6), .int 0, .long 0, .int (-2), .int 0, .ref (ma 7), .ref (ma 8), .ref (ma 9), .ref (ma 10), .ref (ma 11), .int 0, .ref (ma 12), .int 0, .int 0, .int 0, .int 0, .int 0, .int 0, .int 0, .ref (ma 13), .int 0, .int 0, .int 0, .int 0, .ref (ma 14), .ref (ma 15), .int 0, .ref (ma 16), .ref (ma 17), .ref (ma 18), .ref (ma 19), .ref (ma 20), .int 0, .ref (ma 21), .ref (ma 22), .ref (ma 23), .ref (ma 24), .ref (ma 25), .ref (ma 26), .ref (ma 27), .int 0, .int 0, .int 0, .int 0, .int 0, .int 0, .int 0, .ref (ma 28), .ref (ma 29), .int 0, .int 0, .int 0, .int 0]) (ws' := [(h0, .inr (8, [.int 0, .ref (ma 0), .ref (ma 1), .ref (ma 2), .int (-2), .ref (ma 3), .ref (ma 4), .ref (ma 5), .ref (ma 6), .int 0, .long 0, .int (-2), .int 0, .ref (ma 7), .ref (ma 8), .ref (ma 9), .ref (ma 10), .ref (ma 11), .int 0, .ref (ma 12), .int 0, .int 0, .int 0, .int 0, .int 0, .int 0, .int 0, .ref (ma 13), .int 0, .int 0, .int 0, .int 0, .ref (ma 14), .ref (ma 15), .int 0, .ref (ma 16), .ref (ma 17), .ref (ma 18), .ref (ma 19), .ref (ma 20), .int 0, .ref (ma 21), .ref (ma 22), .ref (ma 23), .ref (ma 24), .ref (ma 25), .ref (ma 26), .ref (ma 27), .int 0, .int 0, .int 0, .int 0, .int 0, .int 0, .int 0, .ref (ma 28), .ref (ma 29), .int 0, .int 0, .int 0, .int 0]))]) rfl rfl d_Mo_look_3 (fun H locs S => ?_)
  refine lv_iconst (v := 0) hx hb d_Mo_look_6 (by decide) ?_
  refine lv_istore_n (lv' := [(1, .int 0), (0, .ref h0)]) hx hb d_Mo_look_7 rfl hl (by decide) rfl (fun ls hl => ?_)
  refine lv_iload_n hx hb d_Mo_look_8 rfl (lv_at hl 0 rfl) ?_
  refine lv_aload_n hx hb d_Mo_look_9 rfl (lv_at hl 1 rfl) ?_
  refine r_get C K S 0 rfl rfl clOk_Mo 0 (by decide) wf_Mo_111 (v := .int 0) rfl d_Mo_look_10 ?_
  refine lv_icmp_ge (tgt := 44) hx hb d_Mo_look_13 (by decide) (fun _ => ?_) (fun hq => absurd (by decide) hq)
  refine lv_iconst (v := 0) hx hb d_Mo_look_44 (by decide) ?_
  exact r_iret C K rfl () rfl (S.sub [] rfl rfl) d_Mo_look_45 (Nat.le_of_ble_eq_true rfl) (Nat.le_of_ble_eq_true rfl)
theorem d_Mo_run_0 : decode c_Mo_run 0 = .ok (.aload_n 0, 1) := by decide +kernel
theorem d_Mo_run_1 : decode c_Mo_run 1 = .ok (.iload_n 1, 1) := by decide +kernel
theorem d_Mo_run_2 : decode c_Mo_run 2 = .ok (.invokevirtual 114, 3) := by decide +kernel
theorem d_Mo_run_5 : decode c_Mo_run 5 = .ok (.ifCond .eq 10, 3) := by decide +kernel
theorem d_Mo_run_15 : decode c_Mo_run 15 = .ok (.iconst (-1), 1) := by decide +kernel
theorem d_Mo_run_16 : decode c_Mo_run 16 = .ok (.ireturn, 1) := by decide +kernel
set_option maxRecDepth 100000 in
set_option maxHeartbeats 4000000 in
/-- run() -/
theorem f_Mo_run (l : Launch) (G : va_G) (k : Nat → ClassId) (h0 sz : Nat) (ma : Nat → Nat) (x y z v : Int32) : CI l y_Mo_run c_Mo_run 7 .int { frames := 2, cells := 0, slots := 0, locals := 41 } [.ref h0, .int x, .int y, .int z, .int v] G k sz [(h0, .inr (8, [.int 0, .ref (ma 0), .ref (ma 1), .ref (ma 2), .int (-2), .ref (ma 3), .ref (ma 4), .ref (ma 5), .ref (ma 6), .int 0, .long 0, .int (-2), .int 0, .ref (ma 7), .ref (ma 8), .ref (ma 9), .ref (ma 10), .ref (ma 11), .int 0, .ref (ma 12), .int 0, .int 0, .int 0, .int 0, .int 0, .int 0, .int 0, .ref (ma 13), .int 0, .int 0, .int 0, .int 0, .ref (ma 14), .ref (ma 15), .int 0, .ref (ma 16), .ref (ma 17), .ref (ma 18), .ref (ma 19), .ref (ma 20), .int 0, .ref (ma 21), .ref (ma 22), .ref (ma 23), .ref (ma 24), .ref (ma 25), .ref (ma 26), .ref (ma 27), .int 0, .int 0, .int 0, .int 0, .int 0, .int 0, .int 0, .ref (ma 28), .ref (ma 29), .int 0, .int 0, .int 0, .int 0]))] (fun (r : Int32) (_ : Unit) => r = (-1)) (fun _ => []) 0 0 := by
  refine met_start (by decide) (Nat.le_of_ble_eq_true rfl) ?_
  intro p e s m below meth c C K hA hsz S ls hl
  generalize va_A [(h0, .inr (8, [.int 0, .ref (ma 0), .ref (ma 1), .ref (ma 2), .int (-2), .ref (ma 3), .ref (ma 4), .ref (ma 5), .ref (ma 6), .int 0, .long 0, .int (-2), .int 0, .ref (ma 7), .ref (ma 8), .ref (ma 9), .ref (ma 10), .ref (ma 11), .int 0, .ref (ma 12), .int 0, .int 0, .int 0, .int 0, .int 0, .int 0, .int 0, .ref (ma 13), .int 0, .int 0, .int 0, .int 0, .ref (ma 14), .ref (ma 15), .int 0, .ref (ma 16), .ref (ma 17), .ref (ma 18), .ref (ma 19), .ref (ma 20), .int 0, .ref (ma 21), .ref (ma 22), .ref (ma 23), .ref (ma 24), .ref (ma 25), .ref (ma 26), .ref (ma 27), .int 0, .int 0, .int 0, .int 0, .int 0, .int 0, .int 0, .ref (ma 28), .ref (ma 29), .int 0, .int 0, .int 0, .int 0]))] sz = A at hA S ⊢
  have hx := C.1
  have hb := C.2.1
  have hl : lv_has ls 7 [(0, .ref h0), (1, .int x), (2, .int y), (3, .int z), (4, .int v)] := hl
  refine lv_aload_n hx hb d_Mo_run_0 rfl (lv_at hl 0 rfl) ?_
  refine lv_iload_n hx hb d_Mo_run_1 rfl (lv_at hl 1 rfl) ?_
  refine r_backi (wi := [(h0, .inr (8, [.int 0, .ref (ma 0), .ref (ma 1), .ref (ma 2), .int (-2), .ref (ma 3), .ref (ma 4), .ref (ma 5), .ref (ma 6), .int 0, .long 0, .int (-2), .int 0, .ref (ma 7), .ref (ma 8), .ref (ma 9), .ref (ma 10), .ref (ma 11), .int 0, .ref (ma 12), .int 0, .int 0, .int 0, .int 0, .int 0, .int 0, .int 0, .ref (ma 13), .int 0, .int 0, .int 0, .int 0, .ref (ma 14), .ref (ma 15), .int 0, .ref (ma 16), .ref (ma 17), .ref (ma 18), .ref (ma 19), .ref (ma 20), .int 0, .ref (ma 21), .ref (ma 22), .ref (ma 23), .ref (ma 24), .ref (ma 25), .ref (ma 26), .ref (ma 27), .int 0, .int 0, .int 0, .int 0, .int 0, .int 0, .int 0, .ref (ma 28), .ref (ma 29), .int 0, .int 0, .int 0, .int 0]))]) (wr := []) S hA [0] [] rfl rfl (by decide) (by decide) (va_runV (As := [.int x]) (rest := []) ⟨hx, hb, C.2.2.1, C.2.2.2.1, C.2.2.2.2.1⟩ (f_Mo_isFunction l G k h0 _ ma x) (k_virt (n := 1) C wc_Mo_isFunction rfl rfl wz_Mo wm_Mo_114 wn_Mo_isFunction ws_Mo_isFunction (by decide +kernel) ⟨(Nat.le_of_ble_eq_true rfl), (Nat.le_of_ble_eq_true rfl)⟩) (pr_nowV K S [0] (by decide) rfl 0 rfl rfl) rfl rfl hl.1 rfl (lv_room (Nat.le_of_ble_eq_true rfl)) d_Mo_run_2 ⟨(Nat.le_of_ble_eq_true rfl), (Nat.le_of_ble_eq_true rfl)⟩) (fun r3 u1 H locs hw2 S => ?_)
  have S : Sw G A s.heap _ _ [(h0, .inr (8, [.int 0, .ref (ma 0), .ref (ma 1), .ref (ma 2), .int (-2), .ref (ma 3), .ref (ma 4), .ref (ma 5), .ref (ma 6), .int 0, .long 0, .int (-2), .int 0, .ref (ma 7), .ref (ma 8), .ref (ma 9), .ref (ma 10), .ref (ma 11), .int 0, .ref (ma 12), .int 0, .int 0, .int 0, .int 0, .int 0, .int 0, .int 0, .ref (ma 13), .int 0, .int 0, .int 0, .int 0, .ref (ma 14), .ref (ma 15), .int 0, .ref (ma 16), .ref (ma 17), .ref (ma 18), .ref (ma 19), .ref (ma 20), .int 0, .ref (ma 21), .ref (ma 22), .ref (ma 23), .ref (ma 24), .ref (ma 25), .ref (ma 26), .ref (ma 27), .int 0, .int 0, .int 0, .int 0, .int 0, .int 0, .int 0, .ref (ma 28), .ref (ma 29), .int 0, .int 0, .int 0, .int 0]))] := S
  have hw2 : r3 = 0 := hw2
  subst hw2
  refine lv_if_eq (tgt := 15) hx hb d_Mo_run_5 (by decide) (fun _ => ?_) (fun hq => absurd (by decide) hq)
  refine lv_iconst (v := (-1)) hx hb d_Mo_run_15 (by decide) ?_
  exact r_iret C K rfl () rfl (S.sub [] rfl rfl) d_Mo_run_16 (Nat.le_of_ble_eq_true rfl) (Nat.le_of_ble_eq_true rfl)
theorem d_Mo_cost_0 : decode c_Mo_cost 0 = .ok (.aload_n 0, 1) := by decide +kernel
theorem d_Mo_cost_1 : decode c_Mo_cost 1 = .ok (.getfield 175, 3) := by decide +kernel
theorem d_Mo_cost_4 : decode c_Mo_cost 4 = .ok (.lreturn, 1) := by decide +kernel
set_option maxRecDepth 100000 in
set_option maxHeartbeats 4000000 in
/-- cost() -/
theorem f_Mo_cost (l : Launch) (G : va_G) (k : Nat → ClassId) (h0 sz : Nat) (ma : Nat → Nat) : CL l y_Mo_cost c_Mo_cost 1 { frames := 1, cells := 0, slots := 0, locals := 20 } [.ref h0] G k sz [(h0, .inr (8, [.int 0, .ref (ma 0), .ref (ma 1), .ref (ma 2), .int (-2), .ref (ma 3), .ref (ma 4), .ref (ma 5), .ref (ma 6), .int 0, .long 0, .int (-2), .int 0, .ref (ma 7), .ref (ma 8), .ref (ma 9), .ref (ma 10), .ref (ma 11), .int 0, .ref (ma 12), .int 0, .int 0, .int 0, .int 0, .int 0, .int 0, .int 0, .ref (ma 13), .int 0, .int 0, .int 0, .int 0, .ref (ma 14), .ref (ma 15), .int 0, .ref (ma 16), .ref (ma 17), .ref (ma 18), .ref (ma 19), .ref (ma 20), .int 0, .ref (ma 21), .ref (ma 22), .ref (ma 23), .ref (ma 24), .ref (ma 25), .ref (ma 26), .ref (ma 27), .int 0, .int 0, .int 0, .int 0, .int 0, .int 0, .int 0, .ref (ma 28), .ref (ma 29), .int 0, .int 0, .int 0, .int 0]))] (fun (r : Int64) (_ : Unit) => r = 0) (fun _ => []) 0 0 := by
  refine met_start (by decide) (Nat.le_of_ble_eq_true rfl) ?_
  intro p e s m below meth c C K hA hsz S ls hl
  generalize va_A [(h0, .inr (8, [.int 0, .ref (ma 0), .ref (ma 1), .ref (ma 2), .int (-2), .ref (ma 3), .ref (ma 4), .ref (ma 5), .ref (ma 6), .int 0, .long 0, .int (-2), .int 0, .ref (ma 7), .ref (ma 8), .ref (ma 9), .ref (ma 10), .ref (ma 11), .int 0, .ref (ma 12), .int 0, .int 0, .int 0, .int 0, .int 0, .int 0, .int 0, .ref (ma 13), .int 0, .int 0, .int 0, .int 0, .ref (ma 14), .ref (ma 15), .int 0, .ref (ma 16), .ref (ma 17), .ref (ma 18), .ref (ma 19), .ref (ma 20), .int 0, .ref (ma 21), .ref (ma 22), .ref (ma 23), .ref (ma 24), .ref (ma 25), .ref (ma 26), .ref (ma 27), .int 0, .int 0, .int 0, .int 0, .int 0, .int 0, .int 0, .ref (ma 28), .ref (ma 29), .int 0, .int 0, .int 0, .int 0]))] sz = A at hA S ⊢
  have hx := C.1
  have hb := C.2.1
  have hl : lv_has ls 1 [(0, .ref h0)] := hl
  refine lv_aload_n hx hb d_Mo_cost_0 rfl (lv_at hl 0 rfl) ?_
  refine r_get C K S 0 rfl rfl clOk_Mo 10 (by decide) wf_Mo_175 (v := .long 0) rfl d_Mo_cost_1 ?_
  exact r_lret C K () rfl (S.sub [] rfl rfl) d_Mo_cost_4 (Nat.le_of_ble_eq_true rfl) (Nat.le_of_ble_eq_true rfl)
theorem d_Mo_given_0 : decode c_Mo_given 0 = .ok (.aload_n 0, 1) := by decide +kernel
theorem d_Mo_given_1 : decode c_Mo_given 1 = .ok (.getfield 35, 3) := by decide +kernel
theorem d_Mo_given_4 : decode c_Mo_given 4 = .ok (.ireturn, 1) := by decide +kernel
set_option maxRecDepth 100000 in
set_option maxHeartbeats 4000000 in
/-- given() -/
theorem f_Mo_given (l : Launch) (G : va_G) (k : Nat → ClassId) (h0 sz : Nat) (ma : Nat → Nat) : CI l y_Mo_given c_Mo_given 1 .int { frames := 1, cells := 0, slots := 0, locals := 20 } [.ref h0] G k sz [(h0, .inr (8, [.int 0, .ref (ma 0), .ref (ma 1), .ref (ma 2), .int (-2), .ref (ma 3), .ref (ma 4), .ref (ma 5), .ref (ma 6), .int 0, .long 0, .int (-2), .int 0, .ref (ma 7), .ref (ma 8), .ref (ma 9), .ref (ma 10), .ref (ma 11), .int 0, .ref (ma 12), .int 0, .int 0, .int 0, .int 0, .int 0, .int 0, .int 0, .ref (ma 13), .int 0, .int 0, .int 0, .int 0, .ref (ma 14), .ref (ma 15), .int 0, .ref (ma 16), .ref (ma 17), .ref (ma 18), .ref (ma 19), .ref (ma 20), .int 0, .ref (ma 21), .ref (ma 22), .ref (ma 23), .ref (ma 24), .ref (ma 25), .ref (ma 26), .ref (ma 27), .int 0, .int 0, .int 0, .int 0, .int 0, .int 0, .int 0, .ref (ma 28), .ref (ma 29), .int 0, .int 0, .int 0, .int 0]))] (fun (r : Int32) (_ : Unit) => r = (-2)) (fun _ => []) 0 0 := by
  refine met_start (by decide) (Nat.le_of_ble_eq_true rfl) ?_
  intro p e s m below meth c C K hA hsz S ls hl
  generalize va_A [(h0, .inr (8, [.int 0, .ref (ma 0), .ref (ma 1), .ref (ma 2), .int (-2), .ref (ma 3), .ref (ma 4), .ref (ma 5), .ref (ma 6), .int 0, .long 0, .int (-2), .int 0, .ref (ma 7), .ref (ma 8), .ref (ma 9), .ref (ma 10), .ref (ma 11), .int 0, .ref (ma 12), .int 0, .int 0, .int 0, .int 0, .int 0, .int 0, .int 0, .ref (ma 13), .int 0, .int 0, .int 0, .int 0, .ref (ma 14), .ref (ma 15), .int 0, .ref (ma 16), .ref (ma 17), .ref (ma 18), .ref (ma 19), .ref (ma 20), .int 0, .ref (ma 21), .ref (ma 22), .ref (ma 23), .ref (ma 24), .ref (ma 25), .ref (ma 26), .ref (ma 27), .int 0, .int 0, .int 0, .int 0, .int 0, .int 0, .int 0, .ref (ma 28), .ref (ma 29), .int 0, .int 0, .int 0, .int 0]))] sz = A at hA S ⊢
  have hx := C.1
  have hb := C.2.1
  have hl : lv_has ls 1 [(0, .ref h0)] := hl
  refine lv_aload_n hx hb d_Mo_given_0 rfl (lv_at hl 0 rfl) ?_
  refine r_get C K S 0 rfl rfl clOk_Mo 11 (by decide) wf_Mo_35 (v := .int (-2)) rfl d_Mo_given_1 ?_
  exact r_iret C K rfl () rfl (S.sub [] rfl rfl) d_Mo_given_4 (Nat.le_of_ble_eq_true rfl) (Nat.le_of_ble_eq_true rfl)
theorem d_Mo_steps_0 : decode c_Mo_steps 0 = .ok (.aload_n 0, 1) := by decide +kernel
theorem d_Mo_steps_1 : decode c_Mo_steps 1 = .ok (.getfield 165, 3) := by decide +kernel
theorem d_Mo_steps_4 : decode c_Mo_steps 4 = .ok (.ireturn, 1) := by decide +kernel
set_option maxRecDepth 100000 in
set_option maxHeartbeats 4000000 in
/-- steps() -/
theorem f_Mo_steps (l : Launch) (G : va_G) (k : Nat → ClassId) (h0 sz : Nat) (ma : Nat → Nat) : CI l y_Mo_steps c_Mo_steps 1 .int { frames := 1, cells := 0, slots := 0, locals := 20 } [.ref h0] G k sz [(h0, .inr (8, [.int 0, .ref (ma 0), .ref (ma 1), .ref (ma 2), .int (-2), .ref (ma 3), .ref (ma 4), .ref (ma 5), .ref (ma 6), .int 0, .long 0, .int (-2), .int 0, .ref (ma 7), .ref (ma 8), .ref (ma 9), .ref (ma 10), .ref (ma 11), .int 0, .ref (ma 12), .int 0, .int 0, .int 0, .int 0, .int 0, .int 0, .int 0, .ref (ma 13), .int 0, .int 0, .int 0, .int 0, .ref (ma 14), .ref (ma 15), .int 0, .ref (ma 16), .ref (ma 17), .ref (ma 18), .ref (ma 19), .ref (ma 20), .int 0, .ref (ma 21), .ref (ma 22), .ref (ma 23), .ref (ma 24), .ref (ma 25), .ref (ma 26), .ref (ma 27), .int 0, .int 0, .int 0, .int 0, .int 0, .int 0, .int 0, .ref (ma 28), .ref (ma 29), .int 0, .int 0, .int 0, .int 0]))] (fun (r : Int32) (_ : Unit) => r = 0) (fun _ => []) 0 0 := by
  refine met_start (by decide) (Nat.le_of_ble_eq_true rfl) ?_
  intro p e s m below meth c C K hA hsz S ls hl
  generalize va_A [(h0, .inr (8, [.int 0, .ref (ma 0), .ref (ma 1), .ref (ma 2), .int (-2), .ref (ma 3), .ref (ma 4), .ref (ma 5), .ref (ma 6), .int 0, .long 0, .int (-2), .int 0, .ref (ma 7), .ref (ma 8), .ref (ma 9), .ref (ma 10), .ref (ma 11), .int 0, .ref (ma 12), .int 0, .int 0, .int 0, .int 0, .int 0, .int 0, .int 0, .ref (ma 13), .int 0, .int 0, .int 0, .int 0, .ref (ma 14), .ref (ma 15), .int 0, .ref (ma 16), .ref (ma 17), .ref (ma 18), .ref (ma 19), .ref (ma 20), .int 0, .ref (ma 21), .ref (ma 22), .ref (ma 23), .ref (ma 24), .ref (ma 25), .ref (ma 26), .ref (ma 27), .int 0, .int 0, .int 0, .int 0, .int 0, .int 0, .int 0, .ref (ma 28), .ref (ma 29), .int 0, .int 0, .int 0, .int 0]))] sz = A at hA S ⊢
  have hx := C.1
  have hb := C.2.1
  have hl : lv_has ls 1 [(0, .ref h0)] := hl
  refine lv_aload_n hx hb d_Mo_steps_0 rfl (lv_at hl 0 rfl) ?_
  refine r_get C K S 0 rfl rfl clOk_Mo 12 (by decide) wf_Mo_165 (v := .int 0) rfl d_Mo_steps_1 ?_
  exact r_iret C K rfl () rfl (S.sub [] rfl rfl) d_Mo_steps_4 (Nat.le_of_ble_eq_true rfl) (Nat.le_of_ble_eq_true rfl)
theorem d_Mo_bound_0 : decode c_Mo_bound 0 = .ok (.aload_n 0, 1) := by decide +kernel
theorem d_Mo_bound_1 : decode c_Mo_bound 1 = .ok (.iconst 0, 1) := by decide +kernel
theorem d_Mo_bound_2 : decode c_Mo_bound 2 = .ok (.putfield 383, 3) := by decide +kernel
theorem d_Mo_bound_5 : decode c_Mo_bound 5 = .ok (.aload_n 0, 1) := by decide +kernel
theorem d_Mo_bound_6 : decode c_Mo_bound 6 = .ok (.iconst 0, 1) := by decide +kernel
theorem d_Mo_bound_7 : decode c_Mo_bound 7 = .ok (.putfield 386, 3) := by decide +kernel
theorem d_Mo_bound_10 : decode c_Mo_bound 10 = .ok (.aload_n 0, 1) := by decide +kernel
theorem d_Mo_bound_11 : decode c_Mo_bound 11 = .ok (.iload_n 1, 1) := by decide +kernel
theorem d_Mo_bound_12 : decode c_Mo_bound 12 = .ok (.invokevirtual 114, 3) := by decide +kernel
theorem d_Mo_bound_15 : decode c_Mo_bound 15 = .ok (.ifCond .eq 10, 3) := by decide +kernel
theorem d_Mo_bound_25 : decode c_Mo_bound 25 = .ok (.iconst (-1), 1) := by decide +kernel
theorem d_Mo_bound_26 : decode c_Mo_bound 26 = .ok (.ireturn, 1) := by decide +kernel
set_option maxRecDepth 100000 in
set_option maxHeartbeats 4000000 in
/-- bound() -/
theorem f_Mo_bound (l : Launch) (G : va_G) (k : Nat → ClassId) (h0 sz : Nat) (ma : Nat → Nat) (x : Int32) : CI l y_Mo_bound c_Mo_bound 3 .int { frames := 2, cells := 0, slots := 0, locals := 41 } [.ref h0, .int x] G k sz [(h0, .inr (8, [.int 0, .ref (ma 0), .ref (ma 1), .ref (ma 2), .int (-2), .ref (ma 3), .ref (ma 4), .ref (ma 5), .ref (ma 6), .int 0, .long 0, .int (-2), .int 0, .ref (ma 7), .ref (ma 8), .ref (ma 9), .ref (ma 10), .ref (ma 11), .int 0, .ref (ma 12), .int 0, .int 0, .int 0, .int 0, .int 0, .int 0, .int 0, .ref (ma 13), .int 0, .int 0, .int 0, .int 0, .ref (ma 14), .ref (ma 15), .int 0, .ref (ma 16), .ref (ma 17), .ref (ma 18), .ref (ma 19), .ref (ma 20), .int 0, .ref (ma 21), .ref (ma 22), .ref (ma 23), .ref (ma 24), .ref (ma 25), .ref (ma 26), .ref (ma 27), .int 0, .int 0, .int 0, .int 0, .int 0, .int 0, .int 0, .ref (ma 28), .ref (ma 29), .int 0, .int 0, .int 0, .int 0]))] (fun (r : Int32) (_ : Unit) => r = (-1)) (fun _ => []) 0 0 := by
  refine met_start (by decide) (Nat.le_of_ble_eq_true rfl) ?_
  intro p e s m below meth c C K hA hsz S ls hl
  generalize va_A [(h0, .inr (8, [.int 0, .ref (ma 0), .ref (ma 1), .ref (ma 2), .int (-2), .ref (ma 3), .ref (ma 4), .ref (ma 5), .ref (ma 6), .int 0, .long 0, .int (-2), .int 0, .ref (ma 7), .ref (ma 8), .ref (ma 9), .ref (ma 10), .ref (ma 11), .int 0, .ref (ma 12), .int 0, .int 0, .int 0, .int 0, .int 0, .int 0, .int 0, .ref (ma 13), .int 0, .int 0, .int 0, .int 0, .ref (ma 14), .ref (ma 15), .int 0, .ref (ma 16), .ref (ma 17), .ref (ma 18), .ref (ma 19), .ref (ma 20), .int 0, .ref (ma 21), .ref (ma 22), .ref (ma 23), .ref (ma 24), .ref (ma 25), .ref (ma 26), .ref (ma 27), .int 0, .int 0, .int 0, .int 0, .int 0, .int 0, .int 0, .ref (ma 28), .ref (ma 29), .int 0, .int 0, .int 0, .int 0]))] sz = A at hA S ⊢
  have hx := C.1
  have hb := C.2.1
  have hl : lv_has ls 3 [(0, .ref h0), (1, .int x)] := hl
  refine lv_aload_n hx hb d_Mo_bound_0 rfl (lv_at hl 0 rfl) ?_
  refine lv_iconst (v := 0) hx hb d_Mo_bound_1 (by decide) ?_
  refine r_put C K S 0 rfl rfl clOk_Mo 57 (by decide) wf_Mo_383 rfl (ty := .boolean) (v := .int 0) (by decide +kernel) rfl rfl (Nat.le_of_ble_eq_true rfl) (fs' := [.int 0, .ref (ma 0), .ref (ma 1), .ref (ma 2), .int (-2), .ref (ma 3), .ref (ma 4), .ref (ma 5), .ref (ma 6), .int 0, .long 0, .int (-2), .int 0, .ref (ma 7), .ref (ma 8), .ref (ma 9), .ref (ma 10), .ref (ma 11), .int 0, .ref (ma 12), .int 0, .int 0, .int 0, .int 0, .int 0, .int 0, .int 0, .ref (ma 13), .int 0, .int 0, .int 0, .int 0, .ref (ma 14), .ref (ma 15), .int 0, .ref (ma 16), .ref (ma 17), .ref (ma 18), .ref (ma 19), .ref (ma 20), .int 0, .ref (ma 21), .ref (ma 22), .ref (ma 23), .ref (ma 24), .ref (ma 25), .ref (ma 26), .ref (ma 27), .int 0, .int 0, .int 0, .int 0, .int 0, .int 0, .int 0, .ref (ma 28), .ref (ma 29), .int 0, .int 0, .int 0, .int 0]) (ws' := [(h0, .inr (8, [.int 0, .ref (ma 0), .ref (ma 1), .ref (ma 2), .int (-2), .ref (ma 3), .ref (ma 4), .ref (ma 5), .ref (ma 6), .int 0, .long 0, .int (-2), .int 0, .ref (ma 7), .ref (ma 8), .ref (ma 9), .ref (ma 10), .ref (ma 11), .int 0, .ref (ma 12), .int 0, .int 0, .int 0, .int 0, .int 0, .int 0, .int 0, .ref (ma 13), .int 0, .int 0, .int 0, .int 0, .ref (ma 14), .ref (ma 15), .int 0, .ref (ma 16), .ref (ma 17), .ref (ma 18), .ref (ma 19), .ref (ma 20), .int 0, .ref (ma 21), .ref (ma 22), .ref (ma 23), .ref (ma 24), .ref (ma 25), .ref (ma 26), .ref (ma 27), .int 0, .int 0, .int 0, .int 0, .int 0, .int 0, .int 0, .ref (ma 28), .ref (ma 29), .int 0, .int 0, .int 0, .int 0]))]) rfl rfl d_Mo_bound_2 (fun H locs S => ?_)
  refine lv_aload_n hx hb d_Mo_bound_5 rfl (lv_at hl 0 rfl) ?_
  refine lv_iconst (v := 0) hx hb d_Mo_bound_6 (by decide) ?_
  refine r_put C K S 0 rfl rfl clOk_Mo 60 (by decide) wf_Mo_386 rfl (ty := .boolean) (v := .int 0) (by decide +kernel) rfl rfl (Nat.le_of_ble_eq_true rfl) (fs' := [.int 0, .ref (ma 0), .ref (ma 1), .ref (ma 2), .int (-2), .ref (ma 3), .ref (ma 4), .ref (ma 5), .ref (ma 6), .int 0, .long 0, .int (-2), .int 0, .ref (ma 7), .ref (ma 8), .ref (ma 9), .ref (ma 10), .ref (ma 11), .int 0, .ref (ma 12), .int 0, .int 0, .int 0, .int 0, .int 0, .int 0, .int 0, .ref (ma 13), .int 0, .int 0, .int 0, .int 0, .ref (ma 14), .ref (ma 15), .int 0, .ref (ma 16), .ref (ma 17), .ref (ma 18), .ref (ma 19), .ref (ma 20), .int 0, .ref (ma 21), .ref (ma 22), .ref (ma 23), .ref (ma 24), .ref (ma 25), .ref (ma 26), .ref (ma 27), .int 0, .int 0, .int 0, .int 0, .int 0, .int 0, .int 0, .ref (ma 28), .ref (ma 29), .int 0, .int 0, .int 0, .int 0]) (ws' := [(h0, .inr (8, [.int 0, .ref (ma 0), .ref (ma 1), .ref (ma 2), .int (-2), .ref (ma 3), .ref (ma 4), .ref (ma 5), .ref (ma 6), .int 0, .long 0, .int (-2), .int 0, .ref (ma 7), .ref (ma 8), .ref (ma 9), .ref (ma 10), .ref (ma 11), .int 0, .ref (ma 12), .int 0, .int 0, .int 0, .int 0, .int 0, .int 0, .int 0, .ref (ma 13), .int 0, .int 0, .int 0, .int 0, .ref (ma 14), .ref (ma 15), .int 0, .ref (ma 16), .ref (ma 17), .ref (ma 18), .ref (ma 19), .ref (ma 20), .int 0, .ref (ma 21), .ref (ma 22), .ref (ma 23), .ref (ma 24), .ref (ma 25), .ref (ma 26), .ref (ma 27), .int 0, .int 0, .int 0, .int 0, .int 0, .int 0, .int 0, .ref (ma 28), .ref (ma 29), .int 0, .int 0, .int 0, .int 0]))]) rfl rfl d_Mo_bound_7 (fun H locs S => ?_)
  refine lv_aload_n hx hb d_Mo_bound_10 rfl (lv_at hl 0 rfl) ?_
  refine lv_iload_n hx hb d_Mo_bound_11 rfl (lv_at hl 1 rfl) ?_
  refine r_backi (wi := [(h0, .inr (8, [.int 0, .ref (ma 0), .ref (ma 1), .ref (ma 2), .int (-2), .ref (ma 3), .ref (ma 4), .ref (ma 5), .ref (ma 6), .int 0, .long 0, .int (-2), .int 0, .ref (ma 7), .ref (ma 8), .ref (ma 9), .ref (ma 10), .ref (ma 11), .int 0, .ref (ma 12), .int 0, .int 0, .int 0, .int 0, .int 0, .int 0, .int 0, .ref (ma 13), .int 0, .int 0, .int 0, .int 0, .ref (ma 14), .ref (ma 15), .int 0, .ref (ma 16), .ref (ma 17), .ref (ma 18), .ref (ma 19), .ref (ma 20), .int 0, .ref (ma 21), .ref (ma 22), .ref (ma 23), .ref (ma 24), .ref (ma 25), .ref (ma 26), .ref (ma 27), .int 0, .int 0, .int 0, .int 0, .int 0, .int 0, .int 0, .ref (ma 28), .ref (ma 29), .int 0, .int 0, .int 0, .int 0]))]) (wr := []) S hA [0] [] rfl rfl (by decide) (by decide) (va_runV (As := [.int x]) (rest := []) ⟨hx, hb, C.2.2.1, C.2.2.2.1, C.2.2.2.2.1⟩ (f_Mo_isFunction l G k h0 _ ma x) (k_virt (n := 1) C wc_Mo_isFunction rfl rfl wz_Mo wm_Mo_114 wn_Mo_isFunction ws_Mo_isFunction (by decide +kernel) ⟨(Nat.le_of_ble_eq_true rfl), (Nat.le_of_ble_eq_true rfl)⟩) (pr_nowV K S [0] (by decide) rfl 0 rfl rfl) rfl rfl hl.1 rfl (lv_room (Nat.le_of_ble_eq_true rfl)) d_Mo_bound_12 ⟨(Nat.le_of_ble_eq_true rfl), (Nat.le_of_ble_eq_true rfl)⟩) (fun r3 u1 H locs hw2 S => ?_)
  have S : Sw G A s.heap _ _ [(h0, .inr (8, [.int 0, .ref (ma 0), .ref (ma 1), .ref (ma 2), .int (-2), .ref (ma 3), .ref (ma 4), .ref (ma 5), .ref (ma 6), .int 0, .long 0, .int (-2), .int 0, .ref (ma 7), .ref (ma 8), .ref (ma 9), .ref (ma 10), .ref (ma 11), .int 0, .ref (ma 12), .int 0, .int 0, .int 0, .int 0, .int 0, .int 0, .int 0, .ref (ma 13), .int 0, .int 0, .int 0, .int 0, .ref (ma 14), .ref (ma 15), .int 0, .ref (ma 16), .ref (ma 17), .ref (ma 18), .ref (ma 19), .ref (ma 20), .int 0, .ref (ma 21), .ref (ma 22), .ref (ma 23), .ref (ma 24), .ref (ma 25), .ref (ma 26), .ref (ma 27), .int 0, .int 0, .int 0, .int 0, .int 0, .int 0, .int 0, .ref (ma 28), .ref (ma 29), .int 0, .int 0, .int 0, .int 0]))] := S
  have hw2 : r3 = 0 := hw2
  subst hw2
  refine lv_if_eq (tgt := 25) hx hb d_Mo_bound_15 (by decide) (fun _ => ?_) (fun hq => absurd (by decide) hq)
  refine lv_iconst (v := (-1)) hx hb d_Mo_bound_25 (by decide) ?_
  exact r_iret C K rfl () rfl (S.sub [] rfl rfl) d_Mo_bound_26 (Nat.le_of_ble_eq_true rfl) (Nat.le_of_ble_eq_true rfl)
theorem d_Mo_told_0 : decode c_Mo_told 0 = .ok (.aload_n 0, 1) := by decide +kernel
theorem d_Mo_told_1 : decode c_Mo_told 1 = .ok (.getfield 386, 3) := by decide +kernel
theorem d_Mo_told_4 : decode c_Mo_told 4 = .ok (.ifCond .eq 12, 3) := by decide +kernel
theorem d_Mo_told_16 : decode c_Mo_told 16 = .ok (.bipush (-2), 2) := by decide +kernel
theorem d_Mo_told_18 : decode c_Mo_told 18 = .ok (.goto 18, 3) := by decide +kernel
theorem d_Mo_told_36 : decode c_Mo_told 36 = .ok (.ireturn, 1) := by decide +kernel
set_option maxRecDepth 100000 in
set_option maxHeartbeats 4000000 in
/-- told() -/
theorem f_Mo_told (l : Launch) (G : va_G) (k : Nat → ClassId) (h0 sz : Nat) (ma : Nat → Nat) (x : Int32) : CI l y_Mo_told c_Mo_told 2 .int { frames := 1, cells := 0, slots := 0, locals := 20 } [.ref h0, .int x] G k sz [(h0, .inr (8, [.int 0, .ref (ma 0), .ref (ma 1), .ref (ma 2), .int (-2), .ref (ma 3), .ref (ma 4), .ref (ma 5), .ref (ma 6), .int 0, .long 0, .int (-2), .int 0, .ref (ma 7), .ref (ma 8), .ref (ma 9), .ref (ma 10), .ref (ma 11), .int 0, .ref (ma 12), .int 0, .int 0, .int 0, .int 0, .int 0, .int 0, .int 0, .ref (ma 13), .int 0, .int 0, .int 0, .int 0, .ref (ma 14), .ref (ma 15), .int 0, .ref (ma 16), .ref (ma 17), .ref (ma 18), .ref (ma 19), .ref (ma 20), .int 0, .ref (ma 21), .ref (ma 22), .ref (ma 23), .ref (ma 24), .ref (ma 25), .ref (ma 26), .ref (ma 27), .int 0, .int 0, .int 0, .int 0, .int 0, .int 0, .int 0, .ref (ma 28), .ref (ma 29), .int 0, .int 0, .int 0, .int 0]))] (fun (r : Int32) (_ : Unit) => r = (-2)) (fun _ => []) 0 0 := by
  refine met_start (by decide) (Nat.le_of_ble_eq_true rfl) ?_
  intro p e s m below meth c C K hA hsz S ls hl
  generalize va_A [(h0, .inr (8, [.int 0, .ref (ma 0), .ref (ma 1), .ref (ma 2), .int (-2), .ref (ma 3), .ref (ma 4), .ref (ma 5), .ref (ma 6), .int 0, .long 0, .int (-2), .int 0, .ref (ma 7), .ref (ma 8), .ref (ma 9), .ref (ma 10), .ref (ma 11), .int 0, .ref (ma 12), .int 0, .int 0, .int 0, .int 0, .int 0, .int 0, .int 0, .ref (ma 13), .int 0, .int 0, .int 0, .int 0, .ref (ma 14), .ref (ma 15), .int 0, .ref (ma 16), .ref (ma 17), .ref (ma 18), .ref (ma 19), .ref (ma 20), .int 0, .ref (ma 21), .ref (ma 22), .ref (ma 23), .ref (ma 24), .ref (ma 25), .ref (ma 26), .ref (ma 27), .int 0, .int 0, .int 0, .int 0, .int 0, .int 0, .int 0, .ref (ma 28), .ref (ma 29), .int 0, .int 0, .int 0, .int 0]))] sz = A at hA S ⊢
  have hx := C.1
  have hb := C.2.1
  have hl : lv_has ls 2 [(0, .ref h0), (1, .int x)] := hl
  refine lv_aload_n hx hb d_Mo_told_0 rfl (lv_at hl 0 rfl) ?_
  refine r_get C K S 0 rfl rfl clOk_Mo 60 (by decide) wf_Mo_386 (v := .int 0) rfl d_Mo_told_1 ?_
  refine lv_if_eq (tgt := 16) hx hb d_Mo_told_4 (by decide) (fun _ => ?_) (fun hq => absurd (by decide) hq)
  refine lv_bipush (v := (-2)) hx hb d_Mo_told_16 (by decide) ?_
  refine lv_goto (tgt := 36) hx hb d_Mo_told_18 (by decide) ?_
  exact r_iret C K rfl () rfl (S.sub [] rfl rfl) d_Mo_told_36 (Nat.le_of_ble_eq_true rfl) (Nat.le_of_ble_eq_true rfl)
theorem d_Mo_scaled_0 : decode c_Mo_scaled 0 = .ok (.aload_n 0, 1) := by decide +kernel
theorem d_Mo_scaled_1 : decode c_Mo_scaled 1 = .ok (.getfield 383, 3) := by decide +kernel
theorem d_Mo_scaled_4 : decode c_Mo_scaled 4 = .ok (.ifCond .eq 21, 3) := by decide +kernel
theorem d_Mo_scaled_25 : decode c_Mo_scaled 25 = .ok (.ldc2_w 407, 3) := by decide +kernel
theorem d_Mo_scaled_28 : decode c_Mo_scaled 28 = .ok (.lreturn, 1) := by decide +kernel
set_option maxRecDepth 100000 in
set_option maxHeartbeats 4000000 in
/-- scaled() -/
theorem f_Mo_scaled (l : Launch) (G : va_G) (k : Nat → ClassId) (h0 sz : Nat) (ma : Nat → Nat) (x y : Int32) : CL l y_Mo_scaled c_Mo_scaled 6 { frames := 1, cells := 0, slots := 0, locals := 20 } [.ref h0, .int x, .int y] G k sz [(h0, .inr (8, [.int 0, .ref (ma 0), .ref (ma 1), .ref (ma 2), .int (-2), .ref (ma 3), .ref (ma 4), .ref (ma 5), .ref (ma 6), .int 0, .long 0, .int (-2), .int 0, .ref (ma 7), .ref (ma 8), .ref (ma 9), .ref (ma 10), .ref (ma 11), .int 0, .ref (ma 12), .int 0, .int 0, .int 0, .int 0, .int 0, .int 0, .int 0, .ref (ma 13), .int 0, .int 0, .int 0, .int 0, .ref (ma 14), .ref (ma 15), .int 0, .ref (ma 16), .ref (ma 17), .ref (ma 18), .ref (ma 19), .ref (ma 20), .int 0, .ref (ma 21), .ref (ma 22), .ref (ma 23), .ref (ma 24), .ref (ma 25), .ref (ma 26), .ref (ma 27), .int 0, .int 0, .int 0, .int 0, .int 0, .int 0, .int 0, .ref (ma 28), .ref (ma 29), .int 0, .int 0, .int 0, .int 0]))] (fun (r : Int64) (_ : Unit) => r = (-2)) (fun _ => []) 0 0 := by
  refine met_start (by decide) (Nat.le_of_ble_eq_true rfl) ?_
  intro p e s m below meth c C K hA hsz S ls hl
  generalize va_A [(h0, .inr (8, [.int 0, .ref (ma 0), .ref (ma 1), .ref (ma 2), .int (-2), .ref (ma 3), .ref (ma 4), .ref (ma 5), .ref (ma 6), .int 0, .long 0, .int (-2), .int 0, .ref (ma 7), .ref (ma 8), .ref (ma 9), .ref (ma 10), .ref (ma 11), .int 0, .ref (ma 12), .int 0, .int 0, .int 0, .int 0, .int 0, .int 0, .int 0, .ref (ma 13), .int 0, .int 0, .int 0, .int 0, .ref (ma 14), .ref (ma 15), .int 0, .ref (ma 16), .ref (ma 17), .ref (ma 18), .ref (ma 19), .ref (ma 20), .int 0, .ref (ma 21), .ref (ma 22), .ref (ma 23), .ref (ma 24), .ref (ma 25), .ref (ma 26), .ref (ma 27), .int 0, .int 0, .int 0, .int 0, .int 0, .int 0, .int 0, .ref (ma 28), .ref (ma 29), .int 0, .int 0, .int 0, .int 0]))] sz = A at hA S ⊢
  have hx := C.1
  have hb := C.2.1
  have hl : lv_has ls 6 [(0, .ref h0), (1, .int x), (2, .int y)] := hl
  refine lv_aload_n hx hb d_Mo_scaled_0 rfl (lv_at hl 0 rfl) ?_
  refine r_get C K S 0 rfl rfl clOk_Mo 57 (by decide) wf_Mo_383 (v := .int 0) rfl d_Mo_scaled_1 ?_
  refine lv_if_eq (tgt := 25) hx hb d_Mo_scaled_4 (by decide) (fun _ => ?_) (fun hq => absurd (by decide) hq)
  refine lv_ldc2 (v := (-2)) hx hb C.2.2.2.1 (C.2.2.2.2.1 _ wk_Mo_407) d_Mo_scaled_25 ?_
  exact r_lret C K () rfl (S.sub [] rfl rfl) d_Mo_scaled_28 (Nat.le_of_ble_eq_true rfl) (Nat.le_of_ble_eq_true rfl)
theorem d_Mo_covers_0 : decode c_Mo_covers 0 = .ok (.aload_n 0, 1) := by decide +kernel
theorem d_Mo_covers_1 : decode c_Mo_covers 1 = .ok (.getfield 383, 3) := by decide +kernel
theorem d_Mo_covers_4 : decode c_Mo_covers 4 = .ok (.ifCond .ne 6, 3) := by decide +kernel
theorem d_Mo_covers_7 : decode c_Mo_covers 7 = .ok (.bipush (-2), 2) := by decide +kernel
theorem d_Mo_covers_9 : decode c_Mo_covers 9 = .ok (.ireturn, 1) := by decide +kernel
set_option maxRecDepth 100000 in
set_option maxHeartbeats 4000000 in
/-- covers() -/
theorem f_Mo_covers (l : Launch) (G : va_G) (k : Nat → ClassId) (h0 sz : Nat) (ma : Nat → Nat) (x y z : Int32) (n : Int64) : CI l y_Mo_covers c_Mo_covers 8 .int { frames := 1, cells := 0, slots := 0, locals := 20 } [.ref h0, .int x, .int y, .int z, .long n] G k sz [(h0, .inr (8, [.int 0, .ref (ma 0), .ref (ma 1), .ref (ma 2), .int (-2), .ref (ma 3), .ref (ma 4), .ref (ma 5), .ref (ma 6), .int 0, .long 0, .int (-2), .int 0, .ref (ma 7), .ref (ma 8), .ref (ma 9), .ref (ma 10), .ref (ma 11), .int 0, .ref (ma 12), .int 0, .int 0, .int 0, .int 0, .int 0, .int 0, .int 0, .ref (ma 13), .int 0, .int 0, .int 0, .int 0, .ref (ma 14), .ref (ma 15), .int 0, .ref (ma 16), .ref (ma 17), .ref (ma 18), .ref (ma 19), .ref (ma 20), .int 0, .ref (ma 21), .ref (ma 22), .ref (ma 23), .ref (ma 24), .ref (ma 25), .ref (ma 26), .ref (ma 27), .int 0, .int 0, .int 0, .int 0, .int 0, .int 0, .int 0, .ref (ma 28), .ref (ma 29), .int 0, .int 0, .int 0, .int 0]))] (fun (r : Int32) (_ : Unit) => r = (-2)) (fun _ => []) 0 0 := by
  refine met_start (by decide) (Nat.le_of_ble_eq_true rfl) ?_
  intro p e s m below meth c C K hA hsz S ls hl
  generalize va_A [(h0, .inr (8, [.int 0, .ref (ma 0), .ref (ma 1), .ref (ma 2), .int (-2), .ref (ma 3), .ref (ma 4), .ref (ma 5), .ref (ma 6), .int 0, .long 0, .int (-2), .int 0, .ref (ma 7), .ref (ma 8), .ref (ma 9), .ref (ma 10), .ref (ma 11), .int 0, .ref (ma 12), .int 0, .int 0, .int 0, .int 0, .int 0, .int 0, .int 0, .ref (ma 13), .int 0, .int 0, .int 0, .int 0, .ref (ma 14), .ref (ma 15), .int 0, .ref (ma 16), .ref (ma 17), .ref (ma 18), .ref (ma 19), .ref (ma 20), .int 0, .ref (ma 21), .ref (ma 22), .ref (ma 23), .ref (ma 24), .ref (ma 25), .ref (ma 26), .ref (ma 27), .int 0, .int 0, .int 0, .int 0, .int 0, .int 0, .int 0, .ref (ma 28), .ref (ma 29), .int 0, .int 0, .int 0, .int 0]))] sz = A at hA S ⊢
  have hx := C.1
  have hb := C.2.1
  have hl : lv_has ls 8 [(0, .ref h0), (1, .int x), (2, .int y), (3, .int z), (4, .long n)] := hl
  refine lv_aload_n hx hb d_Mo_covers_0 rfl (lv_at hl 0 rfl) ?_
  refine r_get C K S 0 rfl rfl clOk_Mo 57 (by decide) wf_Mo_383 (v := .int 0) rfl d_Mo_covers_1 ?_
  refine lv_if_ne (tgt := 10) hx hb d_Mo_covers_4 (by decide) (fun hq => absurd (by decide) hq) (fun _ => ?_)
  refine lv_bipush (v := (-2)) hx hb d_Mo_covers_7 (by decide) ?_
  exact r_iret C K rfl () rfl (S.sub [] rfl rfl) d_Mo_covers_9 (Nat.le_of_ble_eq_true rfl) (Nat.le_of_ble_eq_true rfl)
theorem d_Mo_function_0 : decode c_Mo_function 0 = .ok (.iload_n 1, 1) := by decide +kernel
theorem d_Mo_function_1 : decode c_Mo_function 1 = .ok (.ifCond .lt 8, 3) := by decide +kernel
theorem d_Mo_function_4 : decode c_Mo_function 4 = .ok (.iload_n 1, 1) := by decide +kernel
theorem d_Mo_function_5 : decode c_Mo_function 5 = .ok (.iconst 3, 1) := by decide +kernel
theorem d_Mo_function_6 : decode c_Mo_function 6 = .ok (.if_icmp .le 5, 3) := by decide +kernel
theorem d_Mo_function_9 : decode c_Mo_function 9 = .ok (.iconst (-1), 1) := by decide +kernel
theorem d_Mo_function_10 : decode c_Mo_function 10 = .ok (.ireturn, 1) := by decide +kernel
theorem d_Mo_function_11 : decode c_Mo_function 11 = .ok (.aload_n 0, 1) := by decide +kernel
theorem d_Mo_function_12 : decode c_Mo_function 12 = .ok (.getfield 111, 3) := by decide +kernel
theorem d_Mo_function_15 : decode c_Mo_function 15 = .ok (.iconst 4, 1) := by decide +kernel
theorem d_Mo_function_16 : decode c_Mo_function 16 = .ok (.if_icmp .ne 6, 3) := by decide +kernel
theorem d_Mo_function_22 : decode c_Mo_function 22 = .ok (.aload_n 0, 1) := by decide +kernel
theorem d_Mo_function_23 : decode c_Mo_function 23 = .ok (.getfield 9, 3) := by decide +kernel
theorem d_Mo_function_26 : decode c_Mo_function 26 = .ok (.aload_n 0, 1) := by decide +kernel
theorem d_Mo_function_27 : decode c_Mo_function 27 = .ok (.getfield 111, 3) := by decide +kernel
theorem d_Mo_function_30 : decode c_Mo_function 30 = .ok (.iload_n 1, 1) := by decide +kernel
theorem d_Mo_function_31 : decode c_Mo_function 31 = .ok (.iastore, 1) := by decide +kernel
theorem d_Mo_function_32 : decode c_Mo_function 32 = .ok (.aload_n 0, 1) := by decide +kernel
theorem d_Mo_function_33 : decode c_Mo_function 33 = .ok (.getfield 16, 3) := by decide +kernel
theorem d_Mo_function_36 : decode c_Mo_function 36 = .ok (.aload_n 0, 1) := by decide +kernel
theorem d_Mo_function_37 : decode c_Mo_function 37 = .ok (.getfield 111, 3) := by decide +kernel
theorem d_Mo_function_40 : decode c_Mo_function 40 = .ok (.iconst 0, 1) := by decide +kernel
theorem d_Mo_function_41 : decode c_Mo_function 41 = .ok (.iastore, 1) := by decide +kernel
theorem d_Mo_function_42 : decode c_Mo_function 42 = .ok (.aload_n 0, 1) := by decide +kernel
theorem d_Mo_function_43 : decode c_Mo_function 43 = .ok (.dup, 1) := by decide +kernel
theorem d_Mo_function_44 : decode c_Mo_function 44 = .ok (.getfield 111, 3) := by decide +kernel
theorem d_Mo_function_47 : decode c_Mo_function 47 = .ok (.iconst 1, 1) := by decide +kernel
theorem d_Mo_function_48 : decode c_Mo_function 48 = .ok (.iadd, 1) := by decide +kernel
theorem d_Mo_function_49 : decode c_Mo_function 49 = .ok (.putfield 111, 3) := by decide +kernel
theorem d_Mo_function_52 : decode c_Mo_function 52 = .ok (.aload_n 0, 1) := by decide +kernel
theorem d_Mo_function_53 : decode c_Mo_function 53 = .ok (.getfield 111, 3) := by decide +kernel
theorem d_Mo_function_56 : decode c_Mo_function 56 = .ok (.iconst 1, 1) := by decide +kernel
theorem d_Mo_function_57 : decode c_Mo_function 57 = .ok (.isub, 1) := by decide +kernel
theorem d_Mo_function_58 : decode c_Mo_function 58 = .ok (.ireturn, 1) := by decide +kernel
set_option maxRecDepth 100000 in
set_option maxHeartbeats 4000000 in
/-- function() -/
theorem f_Mo_function (l : Launch) (G : va_G) (k : Nat → ClassId) (h0 sz : Nat) (ma : Nat → Nat) (x : Int32) : CI l y_Mo_function c_Mo_function 2 .int { frames := 1, cells := 0, slots := 0, locals := 20 } [.ref h0, .int x] G k sz [(h0, .inr (8, [.int 0, .ref (ma 0), .ref (ma 1), .ref (ma 2), .int (-2), .ref (ma 3), .ref (ma 4), .ref (ma 5), .ref (ma 6), .int 0, .long 0, .int (-2), .int 0, .ref (ma 7), .ref (ma 8), .ref (ma 9), .ref (ma 10), .ref (ma 11), .int 0, .ref (ma 12), .int 0, .int 0, .int 0, .int 0, .int 0, .int 0, .int 0, .ref (ma 13), .int 0, .int 0, .int 0, .int 0, .ref (ma 14), .ref (ma 15), .int 0, .ref (ma 16), .ref (ma 17), .ref (ma 18), .ref (ma 19), .ref (ma 20), .int 0, .ref (ma 21), .ref (ma 22), .ref (ma 23), .ref (ma 24), .ref (ma 25), .ref (ma 26), .ref (ma 27), .int 0, .int 0, .int 0, .int 0, .int 0, .int 0, .int 0, .ref (ma 28), .ref (ma 29), .int 0, .int 0, .int 0, .int 0])), ((ma 0), .inl (k 0, 4, .inl (fun _ => 0))), ((ma 2), .inl (k 0, 4, .inl (fun _ => 0)))] (fun (r : Int32) (_ : Unit) => r = fnr x) (fun _ => []) 0 0 := by
  refine met_start (by decide) (Nat.le_of_ble_eq_true rfl) ?_
  intro p e s m below meth c C K hA hsz S ls hl
  generalize va_A [(h0, .inr (8, [.int 0, .ref (ma 0), .ref (ma 1), .ref (ma 2), .int (-2), .ref (ma 3), .ref (ma 4), .ref (ma 5), .ref (ma 6), .int 0, .long 0, .int (-2), .int 0, .ref (ma 7), .ref (ma 8), .ref (ma 9), .ref (ma 10), .ref (ma 11), .int 0, .ref (ma 12), .int 0, .int 0, .int 0, .int 0, .int 0, .int 0, .int 0, .ref (ma 13), .int 0, .int 0, .int 0, .int 0, .ref (ma 14), .ref (ma 15), .int 0, .ref (ma 16), .ref (ma 17), .ref (ma 18), .ref (ma 19), .ref (ma 20), .int 0, .ref (ma 21), .ref (ma 22), .ref (ma 23), .ref (ma 24), .ref (ma 25), .ref (ma 26), .ref (ma 27), .int 0, .int 0, .int 0, .int 0, .int 0, .int 0, .int 0, .ref (ma 28), .ref (ma 29), .int 0, .int 0, .int 0, .int 0])), ((ma 0), .inl (k 0, 4, .inl (fun _ => 0))), ((ma 2), .inl (k 0, 4, .inl (fun _ => 0)))] sz = A at hA S ⊢
  have hx := C.1
  have hb := C.2.1
  have hl : lv_has ls 2 [(0, .ref h0), (1, .int x)] := hl
  refine lv_iload_n hx hb d_Mo_function_0 rfl (lv_at hl 1 rfl) ?_
  refine lv_if_lt (tgt := 9) hx hb d_Mo_function_1 (by decide) (fun hc1 => ?_) (fun hc1 => ?_)
  · refine lv_iconst (v := (-1)) hx hb d_Mo_function_9 (by decide) ?_
    exact r_iret C K rfl () (by simp [fnr, hc1]) (S.sub [] rfl rfl) d_Mo_function_10 (Nat.le_of_ble_eq_true rfl) (Nat.le_of_ble_eq_true rfl)
  · refine lv_iload_n hx hb d_Mo_function_4 rfl (lv_at hl 1 rfl) ?_
    refine lv_iconst (v := 3) hx hb d_Mo_function_5 (by decide) ?_
    refine lv_icmp_le (tgt := 11) hx hb d_Mo_function_6 (by decide) (fun hc2 => ?_) (fun hc2 => ?_)
    · refine lv_aload_n hx hb d_Mo_function_11 rfl (lv_at hl 0 rfl) ?_
      refine r_get C K S 0 rfl rfl clOk_Mo 0 (by decide) wf_Mo_111 (v := .int 0) rfl d_Mo_function_12 ?_
      refine lv_iconst (v := 4) hx hb d_Mo_function_15 (by decide) ?_
      refine lv_icmp_ne (tgt := 22) hx hb d_Mo_function_16 (by decide) (fun _ => ?_) (fun hq => absurd hq (by decide))
      refine lv_aload_n hx hb d_Mo_function_22 rfl (lv_at hl 0 rfl) ?_
      refine r_get C K S 0 rfl rfl clOk_Mo 1 (by decide) wf_Mo_9 (v := .ref (ma 0)) rfl d_Mo_function_23 ?_
      refine lv_aload_n hx hb d_Mo_function_26 rfl (lv_at hl 0 rfl) ?_
      refine r_get C K S 0 rfl rfl clOk_Mo 0 (by decide) wf_Mo_111 (v := .int 0) rfl d_Mo_function_27 ?_
      refine lv_iload_n hx hb d_Mo_function_30 rfl (lv_at hl 1 rfl) ?_
      refine r_iast C K S 1 rfl (i := 0) (x := x) (by unfold vp_in; decide) (f' := upd (fun _ => 0) 0 x) (ws' := [(h0, .inr (8, [.int 0, .ref (ma 0), .ref (ma 1), .ref (ma 2), .int (-2), .ref (ma 3), .ref (ma 4), .ref (ma 5), .ref (ma 6), .int 0, .long 0, .int (-2), .int 0, .ref (ma 7), .ref (ma 8), .ref (ma 9), .ref (ma 10), .ref (ma 11), .int 0, .ref (ma 12), .int 0, .int 0, .int 0, .int 0, .int 0, .int 0, .int 0, .ref (ma 13), .int 0, .int 0, .int 0, .int 0, .ref (ma 14), .ref (ma 15), .int 0, .ref (ma 16), .ref (ma 17), .ref (ma 18), .ref (ma 19), .ref (ma 20), .int 0, .ref (ma 21), .ref (ma 22), .ref (ma 23), .ref (ma 24), .ref (ma 25), .ref (ma 26), .ref (ma 27), .int 0, .int 0, .int 0, .int 0, .int 0, .int 0, .int 0, .ref (ma 28), .ref (ma 29), .int 0, .int 0, .int 0, .int 0])), ((ma 0), .inl (k 0, 4, .inl (upd (fun _ => 0) 0 x))), ((ma 2), .inl (k 0, 4, .inl (fun _ => 0)))]) rfl rfl d_Mo_function_31 (fun H locs S => ?_)
      refine lv_aload_n hx hb d_Mo_function_32 rfl (lv_at hl 0 rfl) ?_
      refine r_get C K S 0 rfl rfl clOk_Mo 3 (by decide) wf_Mo_16 (v := .ref (ma 2)) rfl d_Mo_function_33 ?_
      refine lv_aload_n hx hb d_Mo_function_36 rfl (lv_at hl 0 rfl) ?_
      refine r_get C K S 0 rfl rfl clOk_Mo 0 (by decide) wf_Mo_111 (v := .int 0) rfl d_Mo_function_37 ?_
      refine lv_iconst (v := 0) hx hb d_Mo_function_40 (by decide) ?_
      refine r_iast C K S 2 rfl (i := 0) (x := 0) (by unfold vp_in; decide) (f' := upd (fun _ => 0) 0 0) (ws' := [(h0, .inr (8, [.int 0, .ref (ma 0), .ref (ma 1), .ref (ma 2), .int (-2), .ref (ma 3), .ref (ma 4), .ref (ma 5), .ref (ma 6), .int 0, .long 0, .int (-2), .int 0, .ref (ma 7), .ref (ma 8), .ref (ma 9), .ref (ma 10), .ref (ma 11), .int 0, .ref (ma 12), .int 0, .int 0, .int 0, .int 0, .int 0, .int 0, .int 0, .ref (ma 13), .int 0, .int 0, .int 0, .int 0, .ref (ma 14), .ref (ma 15), .int 0, .ref (ma 16), .ref (ma 17), .ref (ma 18), .ref (ma 19), .ref (ma 20), .int 0, .ref (ma 21), .ref (ma 22), .ref (ma 23), .ref (ma 24), .ref (ma 25), .ref (ma 26), .ref (ma 27), .int 0, .int 0, .int 0, .int 0, .int 0, .int 0, .int 0, .ref (ma 28), .ref (ma 29), .int 0, .int 0, .int 0, .int 0])), ((ma 0), .inl (k 0, 4, .inl (upd (fun _ => 0) 0 x))), ((ma 2), .inl (k 0, 4, .inl (upd (fun _ => 0) 0 0)))]) rfl rfl d_Mo_function_41 (fun H locs S => ?_)
      refine lv_aload_n hx hb d_Mo_function_42 rfl (lv_at hl 0 rfl) ?_
      refine lv_dup hx hb d_Mo_function_43 rfl ?_
      refine r_get C K S 0 rfl rfl clOk_Mo 0 (by decide) wf_Mo_111 (v := .int 0) rfl d_Mo_function_44 ?_
      refine lv_iconst (v := 1) hx hb d_Mo_function_47 (by decide) ?_
      refine lv_iadd hx hb d_Mo_function_48 ?_
      rw [show (0 : Int32) + 1 = 1 from by decide]
      refine r_put C K S 0 rfl rfl clOk_Mo 0 (by decide) wf_Mo_111 rfl (ty := .int) (v := .int 1) (by decide +kernel) rfl rfl (Nat.le_of_ble_eq_true rfl) (fs' := [.int 1, .ref (ma 0), .ref (ma 1), .ref (ma 2), .int (-2), .ref (ma 3), .ref (ma 4), .ref (ma 5), .ref (ma 6), .int 0, .long 0, .int (-2), .int 0, .ref (ma 7), .ref (ma 8), .ref (ma 9), .ref (ma 10), .ref (ma 11), .int 0, .ref (ma 12), .int 0, .int 0, .int 0, .int 0, .int 0, .int 0, .int 0, .ref (ma 13), .int 0, .int 0, .int 0, .int 0, .ref (ma 14), .ref (ma 15), .int 0, .ref (ma 16), .ref (ma 17), .ref (ma 18), .ref (ma 19), .ref (ma 20), .int 0, .ref (ma 21), .ref (ma 22), .ref (ma 23), .ref (ma 24), .ref (ma 25), .ref (ma 26), .ref (ma 27), .int 0, .int 0, .int 0, .int 0, .int 0, .int 0, .int 0, .ref (ma 28), .ref (ma 29), .int 0, .int 0, .int 0, .int 0]) (ws' := [(h0, .inr (8, [.int 1, .ref (ma 0), .ref (ma 1), .ref (ma 2), .int (-2), .ref (ma 3), .ref (ma 4), .ref (ma 5), .ref (ma 6), .int 0, .long 0, .int (-2), .int 0, .ref (ma 7), .ref (ma 8), .ref (ma 9), .ref (ma 10), .ref (ma 11), .int 0, .ref (ma 12), .int 0, .int 0, .int 0, .int 0, .int 0, .int 0, .int 0, .ref (ma 13), .int 0, .int 0, .int 0, .int 0, .ref (ma 14), .ref (ma 15), .int 0, .ref (ma 16), .ref (ma 17), .ref (ma 18), .ref (ma 19), .ref (ma 20), .int 0, .ref (ma 21), .ref (ma 22), .ref (ma 23), .ref (ma 24), .ref (ma 25), .ref (ma 26), .ref (ma 27), .int 0, .int 0, .int 0, .int 0, .int 0, .int 0, .int 0, .ref (ma 28), .ref (ma 29), .int 0, .int 0, .int 0, .int 0])), ((ma 0), .inl (k 0, 4, .inl (upd (fun _ => 0) 0 x))), ((ma 2), .inl (k 0, 4, .inl (upd (fun _ => 0) 0 0)))]) rfl rfl d_Mo_function_49 (fun H locs S => ?_)
      refine lv_aload_n hx hb d_Mo_function_52 rfl (lv_at hl 0 rfl) ?_
      refine r_get C K S 0 rfl rfl clOk_Mo 0 (by decide) wf_Mo_111 (v := .int 1) rfl d_Mo_function_53 ?_
      refine lv_iconst (v := 1) hx hb d_Mo_function_56 (by decide) ?_
      refine lv_isub hx hb d_Mo_function_57 ?_
      rw [show (1 : Int32) - 1 = 0 from by decide]
      exact r_iret C K rfl () (by simp [fnr, hc1, hc2]) (S.sub [] rfl rfl) d_Mo_function_58 (Nat.le_of_ble_eq_true rfl) (Nat.le_of_ble_eq_true rfl)
    · refine lv_iconst (v := (-1)) hx hb d_Mo_function_9 (by decide) ?_
      exact r_iret C K rfl () (by simp [fnr, hc1, hc2]) (S.sub [] rfl rfl) d_Mo_function_10 (Nat.le_of_ble_eq_true rfl) (Nat.le_of_ble_eq_true rfl)
