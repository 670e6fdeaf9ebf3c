def uiN (un : Nat) : Nat := if un + 1 < 40 then un else 39
def fuN (un fl : Nat) : Nat := if 40 ≤ un then 1 else fl
def cxN (co : Nat) : Nat := if co + 1 < 90 then co else 89
def fcN (co fl : Nat) : Nat := if 90 ≤ co then 1 else fl
theorem uiN_lt (un : Nat) : uiN un < 40 := by
  unfold uiN
  split <;> omega
theorem cxN_lt (co : Nat) : cxN co < 90 := by
  unfold cxN
  split <;> omega
/-- full is told just when there are too many -/
def flO (un co fl : Nat) : Prop := fl = if 40 < un ∨ 90 < co then 1 else 0
theorem flO_le {un co fl : Nat} (h : flO un co fl) : fl ≤ 1 := by
  unfold flO at h
  rw [h]
  split <;> omega
theorem flO_u {un co fl : Nat} (h : flO un co fl) : flO (un + 1) co (fuN un fl) := by
  unfold flO fuN at *
  by_cases q : 40 ≤ un
  · rw [if_pos q, if_pos (by omega)]
  · rw [if_neg q, h]
    by_cases w : 40 < un ∨ 90 < co
    · rw [if_pos w, if_pos (by omega)]
    · rw [if_neg w, if_neg (by omega)]
theorem flO_c {un co fl : Nat} (h : flO un co fl) : flO un (co + 1) (fcN co fl) := by
  unfold flO fcN at *
  by_cases q : 90 ≤ co
  · rw [if_pos q, if_pos (by omega)]
  · rw [if_neg q, h]
    by_cases w : 40 < un ∨ 90 < co
    · rw [if_pos w, if_pos (by omega)]
    · rw [if_neg w, if_neg (by omega)]
/-- the conditions are not large -/
def smO (co : Nat) (sm : Nat → Int64) : Prop := ∀ x, x < co → x < 90 → lz sm x ≤ 65000
theorem smO_s {co : Nat} {sm sm2 : Nat → Int64} (h : smO co sm) (h1 : ∀ x, x ≠ cxN co → lz sm2 x = lz sm x) (h2 : lz sm2 (cxN co) ≤ 65000) : smO (co + 1) sm2 := by
  intro x hx hx2
  by_cases q : x = cxN co
  · rw [q]; exact h2
  · rw [h1 x q]
    refine h x ?_ hx2
    unfold cxN at q
    by_cases w : co + 1 < 90
    · rw [if_pos w] at q; omega
    · rw [if_neg w] at q; omega
theorem lnT_0 (f g : Nat → Int64) (fr to : Nat) : lnT f g fr to 0 = f := by
  funext i
  exact if_neg (by omega)
theorem lnT_s (f g : Nat → Int64) (fr to t : Nat) : va_up (lnT f g fr to t) (to + t) (f (to + t) - g (fr + t)) = lnT f g fr to (t + 1) := by
  funext i
  unfold va_up lnT
  by_cases q : i = to + t
  · rw [if_pos q, if_pos (by omega), q, Nat.add_sub_cancel_left]
  · rw [if_neg q]
    by_cases q2 : to ≤ i ∧ i < to + t
    · rw [if_pos q2, if_pos (by omega)]
    · rw [if_neg q2, if_neg (by omega)]
theorem lnT_own {f g : Nat → Int64} {fr to t : Nat} : lnT f g fr to t (to + t) = f (to + t) := if_neg (by omega)
theorem l1_inc (x : Int64) : l1 (x + 1) ≤ l1 x + 1 := by
  have := l1_add x 1
  rw [l1_1] at this
  exact this
theorem l1_dec (x : Int64) : l1 (x - 1) ≤ l1 x + 1 := by
  have := l1_sub x 1
  rw [l1_1] at this
  exact this
theorem d_Mo_newUnknown_0 : decode c_Mo_newUnknown 0 = .ok (.aload_n 0, 1) := by decide +kernel
theorem d_Mo_newUnknown_1 : decode c_Mo_newUnknown 1 = .ok (.getfield 192, 3) := by decide +kernel
theorem d_Mo_newUnknown_4 : decode c_Mo_newUnknown 4 = .ok (.bipush 40, 2) := by decide +kernel
theorem d_Mo_newUnknown_6 : decode c_Mo_newUnknown 6 = .ok (.if_icmp .lt 8, 3) := by decide +kernel
theorem d_Mo_newUnknown_9 : decode c_Mo_newUnknown 9 = .ok (.aload_n 0, 1) := by decide +kernel
theorem d_Mo_newUnknown_10 : decode c_Mo_newUnknown 10 = .ok (.iconst 1, 1) := by decide +kernel
theorem d_Mo_newUnknown_11 : decode c_Mo_newUnknown 11 = .ok (.putfield 195, 3) := by decide +kernel
theorem d_Mo_newUnknown_14 : decode c_Mo_newUnknown 14 = .ok (.aload_n 0, 1) := by decide +kernel
theorem d_Mo_newUnknown_15 : decode c_Mo_newUnknown 15 = .ok (.dup, 1) := by decide +kernel
theorem d_Mo_newUnknown_16 : decode c_Mo_newUnknown 16 = .ok (.getfield 192, 3) := by decide +kernel
theorem d_Mo_newUnknown_19 : decode c_Mo_newUnknown 19 = .ok (.iconst 1, 1) := by decide +kernel
theorem d_Mo_newUnknown_20 : decode c_Mo_newUnknown 20 = .ok (.iadd, 1) := by decide +kernel
theorem d_Mo_newUnknown_21 : decode c_Mo_newUnknown 21 = .ok (.putfield 192, 3) := by decide +kernel
theorem d_Mo_newUnknown_24 : decode c_Mo_newUnknown 24 = .ok (.aload_n 0, 1) := by decide +kernel
theorem d_Mo_newUnknown_25 : decode c_Mo_newUnknown 25 = .ok (.getfield 192, 3) := by decide +kernel
theorem d_Mo_newUnknown_28 : decode c_Mo_newUnknown 28 = .ok (.bipush 40, 2) := by decide +kernel
theorem d_Mo_newUnknown_30 : decode c_Mo_newUnknown 30 = .ok (.if_icmp .ge 10, 3) := by decide +kernel
theorem d_Mo_newUnknown_33 : decode c_Mo_newUnknown 33 = .ok (.aload_n 0, 1) := by decide +kernel
theorem d_Mo_newUnknown_34 : decode c_Mo_newUnknown 34 = .ok (.getfield 192, 3) := by decide +kernel
theorem d_Mo_newUnknown_37 : decode c_Mo_newUnknown 37 = .ok (.goto 5, 3) := by decide +kernel
theorem d_Mo_newUnknown_40 : decode c_Mo_newUnknown 40 = .ok (.bipush 40, 2) := by decide +kernel
theorem d_Mo_newUnknown_42 : decode c_Mo_newUnknown 42 = .ok (.iconst 1, 1) := by decide +kernel
theorem d_Mo_newUnknown_43 : decode c_Mo_newUnknown 43 = .ok (.isub, 1) := by decide +kernel
theorem d_Mo_newUnknown_44 : decode c_Mo_newUnknown 44 = .ok (.ireturn, 1) := by decide +kernel
set_option maxRecDepth 100000 in
set_option maxHeartbeats 16000000 in
/-- newUnknown() -/
theorem g_Mo_newUnknown (l : Launch) (G : va_G) (k : Nat → ClassId) (h0 : Nat) (s0 : Nat) (un : Nat) (fl : Nat) (ma : Nat → Nat) (iv : Nat → Int32) (co : Int64) (hun : un ≤ 10000) (hfl : fl ≤ 1) : CI l y_Mo_newUnknown c_Mo_newUnknown 1 .int { frames := 0, cells := 0, slots := 0, locals := 0 } [.ref h0] G k s0 [(h0, .inr (8, moL ma (va_up (va_up iv 14 (nI un)) 16 (nI fl)) co))] (fun (r : Int32) (u : Unit) => r = nI (uiN un) ∧ True) (fun u => [(h0, .inr (8, moL ma (va_up (va_up iv 14 (nI (un + 1))) 16 (nI (fuN un fl))) co))]) 0 0 := by
  refine met_start (by decide) (Nat.le_of_ble_eq_true rfl) ?_
  intro p e s m below meth c C K hA hsz S ls hl
  generalize va_A [(h0, .inr (8, moL ma (va_up (va_up iv 14 (nI un)) 16 (nI fl)) co))] s0 = A at hA S ⊢
  have hx := C.1
  have hb := C.2.1
  have hl : lv_has ls 1 [(0, .ref h0)] := hl
  refine lv_aload_n hx hb d_Mo_newUnknown_0 rfl (lv_at hl 0 rfl) ?_
  refine r_get C K S 0 rfl rfl clOk_Mo 29 (by decide) wf_Mo_192 (v := .int (nI un)) rfl d_Mo_newUnknown_1 ?_
  refine lv_bipush (v := 40) hx hb d_Mo_newUnknown_4 (by decide) ?_
  refine z_icmp_lt (a := un) (b := 40) (tgt := 14) hx hb d_Mo_newUnknown_6 (by decide) (by omega) (by omega) (fun hc1 => ?_) (fun hc1 => ?_)
  · refine lv_aload_n hx hb d_Mo_newUnknown_14 rfl (lv_at hl 0 rfl) ?_
    refine lv_dup hx hb d_Mo_newUnknown_15 rfl ?_
    refine r_get C K S 0 rfl rfl clOk_Mo 29 (by decide) wf_Mo_192 (v := .int (nI un)) rfl d_Mo_newUnknown_16 ?_
    refine lv_iconst (v := 1) hx hb d_Mo_newUnknown_19 (by decide) ?_
    refine z_iadd (x := nI un) (y := 1) (v := nI (un + 1)) hx hb d_Mo_newUnknown_20 (nI_add un 1) ?_
    refine r_put C K S 0 rfl rfl clOk_Mo 29 (by decide) wf_Mo_192 rfl (ty := .int) (v := .int (nI (un + 1))) (by decide +kernel) rfl rfl (Nat.le_of_ble_eq_true rfl) (fs' := moL ma (va_up (va_up iv 16 (nI fl)) 14 (nI (un + 1))) co) (ws' := [(h0, .inr (8, moL ma (va_up (va_up iv 16 (nI fl)) 14 (nI (un + 1))) co))]) rfl rfl d_Mo_newUnknown_21 (fun H locs S => ?_)
    refine lv_aload_n hx hb d_Mo_newUnknown_24 rfl (lv_at hl 0 rfl) ?_
    refine r_get C K S 0 rfl rfl clOk_Mo 29 (by decide) wf_Mo_192 (v := .int (nI (un + 1))) rfl d_Mo_newUnknown_25 ?_
    refine lv_bipush (v := 40) hx hb d_Mo_newUnknown_28 (by decide) ?_
    refine z_icmp_ge (a := (un + 1)) (b := 40) (tgt := 40) hx hb d_Mo_newUnknown_30 (by decide) (by omega) (by omega) (fun hc2 => ?_) (fun hc2 => ?_)
    · refine lv_bipush (v := 40) hx hb d_Mo_newUnknown_40 (by decide) ?_
      refine lv_iconst (v := 1) hx hb d_Mo_newUnknown_42 (by decide) ?_
      refine lv_isub hx hb d_Mo_newUnknown_43 ?_
      rw [show (40 : Int32) - 1 = 39 from by decide]
      have hf1 : fuN un fl = fl := if_neg (by omega)
      have S : Sw G A s.heap H locs [(h0, .inr (8, moL ma (va_up (va_up iv 14 (nI (un + 1))) 16 (nI (fuN un fl))) co))] := by rw [hf1]; exact S
      exact r_iret C K rfl () ⟨congrArg nI (show 39 = uiN un from (if_neg (by omega)).symm), trivial⟩ (S.sub [0] (by decide) rfl) d_Mo_newUnknown_44 (Nat.le_of_ble_eq_true rfl) (Nat.le_of_ble_eq_true rfl)
    · refine lv_aload_n hx hb d_Mo_newUnknown_33 rfl (lv_at hl 0 rfl) ?_
      refine r_get C K S 0 rfl rfl clOk_Mo 29 (by decide) wf_Mo_192 (v := .int (nI (un + 1))) rfl d_Mo_newUnknown_34 ?_
      refine lv_goto (tgt := 42) hx hb d_Mo_newUnknown_37 (by decide) ?_
      refine lv_iconst (v := 1) hx hb d_Mo_newUnknown_42 (by decide) ?_
      refine z_isub (x := nI (un + 1)) (y := 1) (v := nI (un + 1 - 1)) hx hb d_Mo_newUnknown_43 (pk_sub (a := (un + 1)) (b := 1) (by omega)) ?_
      have hf1 : fuN un fl = fl := if_neg (by omega)
      have S : Sw G A s.heap H locs [(h0, .inr (8, moL ma (va_up (va_up iv 14 (nI (un + 1))) 16 (nI (fuN un fl))) co))] := by rw [hf1]; exact S
      exact r_iret C K rfl () ⟨congrArg nI (show (un + 1 - 1) = uiN un from ((if_pos (by omega)).trans (by omega)).symm), trivial⟩ (S.sub [0] (by decide) rfl) d_Mo_newUnknown_44 (Nat.le_of_ble_eq_true rfl) (Nat.le_of_ble_eq_true rfl)
  · refine lv_aload_n hx hb d_Mo_newUnknown_9 rfl (lv_at hl 0 rfl) ?_
    refine lv_iconst (v := 1) hx hb d_Mo_newUnknown_10 (by decide) ?_
    refine r_put C K S 0 rfl rfl clOk_Mo 31 (by decide) wf_Mo_195 rfl (ty := .boolean) (v := .int 1) (by decide +kernel) rfl rfl (Nat.le_of_ble_eq_true rfl) (fs' := moL ma (va_up (va_up iv 14 (nI un)) 16 1) co) (ws' := [(h0, .inr (8, moL ma (va_up (va_up iv 14 (nI un)) 16 1) co))]) rfl rfl d_Mo_newUnknown_11 (fun H locs S => ?_)
    refine lv_aload_n hx hb d_Mo_newUnknown_14 rfl (lv_at hl 0 rfl) ?_
    refine lv_dup hx hb d_Mo_newUnknown_15 rfl ?_
    refine r_get C K S 0 rfl rfl clOk_Mo 29 (by decide) wf_Mo_192 (v := .int (nI un)) rfl d_Mo_newUnknown_16 ?_
    refine lv_iconst (v := 1) hx hb d_Mo_newUnknown_19 (by decide) ?_
    refine z_iadd (x := nI un) (y := 1) (v := nI (un + 1)) hx hb d_Mo_newUnknown_20 (nI_add un 1) ?_
    refine r_put C K S 0 rfl rfl clOk_Mo 29 (by decide) wf_Mo_192 rfl (ty := .int) (v := .int (nI (un + 1))) (by decide +kernel) rfl rfl (Nat.le_of_ble_eq_true rfl) (fs' := moL ma (va_up (va_up iv 16 1) 14 (nI (un + 1))) co) (ws' := [(h0, .inr (8, moL ma (va_up (va_up iv 16 1) 14 (nI (un + 1))) co))]) rfl rfl d_Mo_newUnknown_21 (fun H locs S => ?_)
    refine lv_aload_n hx hb d_Mo_newUnknown_24 rfl (lv_at hl 0 rfl) ?_
    refine r_get C K S 0 rfl rfl clOk_Mo 29 (by decide) wf_Mo_192 (v := .int (nI (un + 1))) rfl d_Mo_newUnknown_25 ?_
    refine lv_bipush (v := 40) hx hb d_Mo_newUnknown_28 (by decide) ?_
    refine z_icmp_ge (a := (un + 1)) (b := 40) (tgt := 40) hx hb d_Mo_newUnknown_30 (by decide) (by omega) (by omega) (fun hc4 => ?_) (fun hc4 => ?_)
    · refine lv_bipush (v := 40) hx hb d_Mo_newUnknown_40 (by decide) ?_
      refine lv_iconst (v := 1) hx hb d_Mo_newUnknown_42 (by decide) ?_
      refine lv_isub hx hb d_Mo_newUnknown_43 ?_
      rw [show (40 : Int32) - 1 = 39 from by decide]
      have hf1 : fuN un fl = 1 := if_pos (by omega)
      have S : Sw G A s.heap H locs [(h0, .inr (8, moL ma (va_up (va_up iv 14 (nI (un + 1))) 16 (nI (fuN un fl))) co))] := by rw [hf1]; exact S
      exact r_iret C K rfl () ⟨congrArg nI (show 39 = uiN un from (if_neg (by omega)).symm), trivial⟩ (S.sub [0] (by decide) rfl) d_Mo_newUnknown_44 (Nat.le_of_ble_eq_true rfl) (Nat.le_of_ble_eq_true rfl)
    · refine lv_aload_n hx hb d_Mo_newUnknown_33 rfl (lv_at hl 0 rfl) ?_
      refine r_get C K S 0 rfl rfl clOk_Mo 29 (by decide) wf_Mo_192 (v := .int (nI (un + 1))) rfl d_Mo_newUnknown_34 ?_
      refine lv_goto (tgt := 42) hx hb d_Mo_newUnknown_37 (by decide) ?_
      refine lv_iconst (v := 1) hx hb d_Mo_newUnknown_42 (by decide) ?_
      refine z_isub (x := nI (un + 1)) (y := 1) (v := nI (un + 1 - 1)) hx hb d_Mo_newUnknown_43 (pk_sub (a := (un + 1)) (b := 1) (by omega)) ?_
      have hf1 : fuN un fl = 1 := if_pos (by omega)
      have S : Sw G A s.heap H locs [(h0, .inr (8, moL ma (va_up (va_up iv 14 (nI (un + 1))) 16 (nI (fuN un fl))) co))] := by rw [hf1]; exact S
      exact r_iret C K rfl () ⟨congrArg nI (show (un + 1 - 1) = uiN un from ((if_pos (by omega)).trans (by omega)).symm), trivial⟩ (S.sub [0] (by decide) rfl) d_Mo_newUnknown_44 (Nat.le_of_ble_eq_true rfl) (Nat.le_of_ble_eq_true rfl)
theorem d_Mo_newCondition_0 : decode c_Mo_newCondition 0 = .ok (.aload_n 0, 1) := by decide +kernel
theorem d_Mo_newCondition_1 : decode c_Mo_newCondition 1 = .ok (.getfield 198, 3) := by decide +kernel
theorem d_Mo_newCondition_4 : decode c_Mo_newCondition 4 = .ok (.bipush 90, 2) := by decide +kernel
theorem d_Mo_newCondition_6 : decode c_Mo_newCondition 6 = .ok (.if_icmp .lt 8, 3) := by decide +kernel
theorem d_Mo_newCondition_9 : decode c_Mo_newCondition 9 = .ok (.aload_n 0, 1) := by decide +kernel
theorem d_Mo_newCondition_10 : decode c_Mo_newCondition 10 = .ok (.iconst 1, 1) := by decide +kernel
theorem d_Mo_newCondition_11 : decode c_Mo_newCondition 11 = .ok (.putfield 195, 3) := by decide +kernel
theorem d_Mo_newCondition_14 : decode c_Mo_newCondition 14 = .ok (.aload_n 0, 1) := by decide +kernel
theorem d_Mo_newCondition_15 : decode c_Mo_newCondition 15 = .ok (.dup, 1) := by decide +kernel
theorem d_Mo_newCondition_16 : decode c_Mo_newCondition 16 = .ok (.getfield 198, 3) := by decide +kernel
theorem d_Mo_newCondition_19 : decode c_Mo_newCondition 19 = .ok (.iconst 1, 1) := by decide +kernel
theorem d_Mo_newCondition_20 : decode c_Mo_newCondition 20 = .ok (.iadd, 1) := by decide +kernel
theorem d_Mo_newCondition_21 : decode c_Mo_newCondition 21 = .ok (.putfield 198, 3) := by decide +kernel
theorem d_Mo_newCondition_24 : decode c_Mo_newCondition 24 = .ok (.bipush 41, 2) := by decide +kernel
theorem d_Mo_newCondition_26 : decode c_Mo_newCondition 26 = .ok (.aload_n 0, 1) := by decide +kernel
theorem d_Mo_newCondition_27 : decode c_Mo_newCondition 27 = .ok (.getfield 198, 3) := by decide +kernel
theorem d_Mo_newCondition_30 : decode c_Mo_newCondition 30 = .ok (.bipush 90, 2) := by decide +kernel
theorem d_Mo_newCondition_32 : decode c_Mo_newCondition 32 = .ok (.if_icmp .ge 10, 3) := by decide +kernel
theorem d_Mo_newCondition_35 : decode c_Mo_newCondition 35 = .ok (.aload_n 0, 1) := by decide +kernel
theorem d_Mo_newCondition_36 : decode c_Mo_newCondition 36 = .ok (.getfield 198, 3) := by decide +kernel
theorem d_Mo_newCondition_39 : decode c_Mo_newCondition 39 = .ok (.goto 5, 3) := by decide +kernel
theorem d_Mo_newCondition_42 : decode c_Mo_newCondition 42 = .ok (.bipush 90, 2) := by decide +kernel
theorem d_Mo_newCondition_44 : decode c_Mo_newCondition 44 = .ok (.iconst 1, 1) := by decide +kernel
theorem d_Mo_newCondition_45 : decode c_Mo_newCondition 45 = .ok (.isub, 1) := by decide +kernel
theorem d_Mo_newCondition_46 : decode c_Mo_newCondition 46 = .ok (.imul, 1) := by decide +kernel
theorem d_Mo_newCondition_47 : decode c_Mo_newCondition 47 = .ok (.istore_n 1, 1) := by decide +kernel
theorem d_Mo_newCondition_48 : decode c_Mo_newCondition 48 = .ok (.iconst 0, 1) := by decide +kernel
theorem d_Mo_newCondition_49 : decode c_Mo_newCondition 49 = .ok (.istore_n 2, 1) := by decide +kernel
theorem d_Mo_newCondition_50 : decode c_Mo_newCondition 50 = .ok (.iload_n 2, 1) := by decide +kernel
theorem d_Mo_newCondition_51 : decode c_Mo_newCondition 51 = .ok (.bipush 41, 2) := by decide +kernel
theorem d_Mo_newCondition_53 : decode c_Mo_newCondition 53 = .ok (.if_icmp .ge 18, 3) := by decide +kernel
theorem d_Mo_newCondition_56 : decode c_Mo_newCondition 56 = .ok (.aload_n 0, 1) := by decide +kernel
theorem d_Mo_newCondition_57 : decode c_Mo_newCondition 57 = .ok (.getfield 64, 3) := by decide +kernel
theorem d_Mo_newCondition_60 : decode c_Mo_newCondition 60 = .ok (.iload_n 1, 1) := by decide +kernel
theorem d_Mo_newCondition_61 : decode c_Mo_newCondition 61 = .ok (.iload_n 2, 1) := by decide +kernel
theorem d_Mo_newCondition_62 : decode c_Mo_newCondition 62 = .ok (.iadd, 1) := by decide +kernel
theorem d_Mo_newCondition_63 : decode c_Mo_newCondition 63 = .ok (.lconst 0, 1) := by decide +kernel
theorem d_Mo_newCondition_64 : decode c_Mo_newCondition 64 = .ok (.lastore, 1) := by decide +kernel
theorem d_Mo_newCondition_65 : decode c_Mo_newCondition 65 = .ok (.iinc 2 1, 3) := by decide +kernel
theorem d_Mo_newCondition_68 : decode c_Mo_newCondition 68 = .ok (.goto (-18), 3) := by decide +kernel
theorem d_Mo_newCondition_71 : decode c_Mo_newCondition 71 = .ok (.iload_n 1, 1) := by decide +kernel
theorem d_Mo_newCondition_72 : decode c_Mo_newCondition 72 = .ok (.ireturn, 1) := by decide +kernel
set_option maxRecDepth 100000 in
set_option maxHeartbeats 16000000 in
/-- newCondition() -/
theorem g_Mo_newCondition (l : Launch) (G : va_G) (k : Nat → ClassId) (h0 : Nat) (s0 : Nat) (co9 : Nat) (fl : Nat) (ma : Nat → Nat) (iv : Nat → Int32) (co : Int64) (sm : Nat → Int64) (hco : co9 ≤ 10000) (hfl : fl ≤ 1) : CI l y_Mo_newCondition c_Mo_newCondition 3 .int { frames := 0, cells := 0, slots := 0, locals := 0 } [.ref h0] G k s0 [(h0, .inr (8, moL ma (va_up (va_up iv 15 (nI co9)) 16 (nI fl)) co)), ((ma 15), .inl (k 1, 3690, .inr (.inl sm)))] (fun (r : Int32) (u : Unit) => r = nI (cxN co9 * 41) ∧ True) (fun u => [(h0, .inr (8, moL ma (va_up (va_up iv 15 (nI (co9 + 1))) 16 (nI (fcN co9 fl))) co)), ((ma 15), .inl (k 1, 3690, .inr (.inl (lnC sm (cxN co9 * 41) 41))))]) 0 0 := by
  refine met_start (by decide) (Nat.le_of_ble_eq_true rfl) ?_
  intro p e s m below meth c C K hA hsz S ls hl
  generalize va_A [(h0, .inr (8, moL ma (va_up (va_up iv 15 (nI co9)) 16 (nI fl)) co)), ((ma 15), .inl (k 1, 3690, .inr (.inl sm)))] s0 = A at hA S ⊢
  have hx := C.1
  have hb := C.2.1
  have hl : lv_has ls 3 [(0, .ref h0)] := hl
  have cont : ∀ (H : Heap) (locs : List Loc), Sw G A s.heap H locs [(h0, .inr (8, moL ma (va_up (va_up iv 15 (nI (co9 + 1))) 16 (nI (fcN co9 fl))) co)), ((ma 15), .inl (k 1, 3690, .inr (.inl sm)))] → ∀ ls : Array Slot, lv_has ls 3 [(1, .int (nI (cxN co9 * 41))), (0, .ref h0)] → W p l e { frames := 0, cells := 0, slots := 0, locals := 0 } s m [Value.ref h0].toArray below meth c H locs 0 0 (MQ below (va_Qi (fun (r : Int32) (u : Unit) => r = nI (cxN co9 * 41) ∧ True) (Po G k A (fun u => [(h0, .inr (8, moL ma (va_up (va_up iv 15 (nI (co9 + 1))) 16 (nI (fcN co9 fl))) co)), ((ma 15), .inl (k 1, 3690, .inr (.inl (lnC sm (cxN co9 * 41) 41))))])) A) [Value.ref h0].toArray s 0 0 A) (F0 m 48 ls []) := by
    intro H locs S ls hl
    have hcx := cxN_lt co9
    refine lv_iconst (v := 0) hx hb d_Mo_newCondition_48 (by decide) ?_
    refine lv_istore_n (lv' := [(2, .int 0), (1, .int (nI (cxN co9 * 41))), (0, .ref h0)]) hx hb d_Mo_newCondition_49 rfl hl (by decide) rfl (fun ls hl => ?_)
    have S : Sw G A s.heap H locs [(h0, .inr (8, moL ma (va_up (va_up iv 15 (nI (co9 + 1))) 16 (nI (fcN co9 fl))) co)), ((ma 15), .inl (k 1, 3690, .inr (.inl (lnC sm (cxN co9 * 41) 0))))] := by rw [lnC_0]; exact S
    have lp : ∀ d9, ∀ (t : Nat), (41 - t) < d9 → (t ≤ 41) → ∀ (H : Heap) (locs : List Loc), Sw G A s.heap H locs [(h0, .inr (8, moL ma (va_up (va_up iv 15 (nI (co9 + 1))) 16 (nI (fcN co9 fl))) co)), ((ma 15), .inl (k 1, 3690, .inr (.inl (lnC sm (cxN co9 * 41) t))))] → ∀ ls : Array Slot, lv_has ls 3 [(2, .int (nI t)), (1, .int (nI (cxN co9 * 41))), (0, .ref h0)] → W p l e { frames := 0, cells := 0, slots := 0, locals := 0 } s m [Value.ref h0].toArray below meth c H locs 0 0 (MQ below (va_Qi (fun (r : Int32) (u : Unit) => r = nI (cxN co9 * 41) ∧ True) (Po G k A (fun u => [(h0, .inr (8, moL ma (va_up (va_up iv 15 (nI (co9 + 1))) 16 (nI (fcN co9 fl))) co)), ((ma 15), .inl (k 1, 3690, .inr (.inl (lnC sm (cxN co9 * 41) 41))))])) A) [Value.ref h0].toArray s 0 0 A) (F0 m 50 ls []) := by
      intro d9
      induction d9 with
      | zero => intro t hm; exact absurd hm (Nat.not_lt_zero _)
      | succ d9 ih_lp =>
        intro t hm ht H locs S ls hl
        refine lv_iload_n hx hb d_Mo_newCondition_50 rfl (lv_at hl 0 rfl) ?_
        refine lv_bipush (v := 41) hx hb d_Mo_newCondition_51 (by decide) ?_
        refine z_icmp_ge (a := t) (b := 41) (tgt := 71) hx hb d_Mo_newCondition_53 (by decide) (by omega) (by omega) (fun hc1 => ?_) (fun hc1 => ?_)
        · refine lv_iload_n hx hb d_Mo_newCondition_71 rfl (lv_at hl 1 rfl) ?_
          have ht9 : t = 41 := by omega
          have S : Sw G A s.heap H locs [(h0, .inr (8, moL ma (va_up (va_up iv 15 (nI (co9 + 1))) 16 (nI (fcN co9 fl))) co)), ((ma 15), .inl (k 1, 3690, .inr (.inl (lnC sm (cxN co9 * 41) 41))))] := by rw [ht9] at S; exact S
          exact r_iret C K rfl () ⟨rfl, trivial⟩ (S.sub [0, 1] (by decide) rfl) d_Mo_newCondition_72 (Nat.le_of_ble_eq_true rfl) (Nat.le_of_ble_eq_true rfl)
        · refine lv_aload_n hx hb d_Mo_newCondition_56 rfl (lv_at hl 2 rfl) ?_
          refine r_get C K S 0 rfl rfl clOk_Mo 33 (by decide) wf_Mo_64 (v := .ref (ma 15)) rfl d_Mo_newCondition_57 ?_
          refine lv_iload_n hx hb d_Mo_newCondition_60 rfl (lv_at hl 1 rfl) ?_
          refine lv_iload_n hx hb d_Mo_newCondition_61 rfl (lv_at hl 0 rfl) ?_
          refine z_iadd (x := nI (cxN co9 * 41)) (y := nI t) (v := nI (cxN co9 * 41 + t)) hx hb d_Mo_newCondition_62 (nI_add (cxN co9 * 41) t) ?_
          refine lv_lconst (v := 0) hx hb d_Mo_newCondition_63 (by decide) ?_
          refine r_last C K S 1 rfl (i := nI (cxN co9 * 41 + t)) (x := 0) (show vp_in (nI (cxN co9 * 41 + t)) _ from vp_in_nI (n := (cxN co9 * 41 + t)) (by omega) (by decide)) (f' := va_up (lnC sm (cxN co9 * 41) t) (cxN co9 * 41 + t) 0) (ws' := [(h0, .inr (8, moL ma (va_up (va_up iv 15 (nI (co9 + 1))) 16 (nI (fcN co9 fl))) co)), ((ma 15), .inl (k 1, 3690, .inr (.inl (va_up (lnC sm (cxN co9 * 41) t) (cxN co9 * 41 + t) 0))))]) (show vp_updL _ (nI (cxN co9 * 41 + t) : Int32).toNatClampNeg _ = _ from vp_updL_eq (lnC sm (cxN co9 * 41) t) (j := (cxN co9 * 41 + t)) (by omega) 0) rfl d_Mo_newCondition_64 (fun H locs S => ?_)
          have S : Sw G A s.heap H locs [(h0, .inr (8, moL ma (va_up (va_up iv 15 (nI (co9 + 1))) 16 (nI (fcN co9 fl))) co)), ((ma 15), .inl (k 1, 3690, .inr (.inl (lnC sm (cxN co9 * 41) (t + 1)))))] := by rw [lnC_s] at S; exact S
          refine lv_iinc (v := nI (t + 1)) (lv' := [(2, .int (nI (t + 1))), (1, .int (nI (cxN co9 * 41))), (0, .ref h0)]) hx hb d_Mo_newCondition_65 hl (k := 0) rfl (show nI t + Int32.ofInt 1 = nI (t + 1) from (nI_add t 1).trans (congrArg nI (by omega))) (by decide) rfl (fun ls hl => ?_)
          refine lv_goto (tgt := 50) hx hb d_Mo_newCondition_68 (by decide) ?_
          exact ih_lp (t + 1) (by omega) (by omega) _ _ (S.sub [0, 1] (by decide) rfl) ls (lv_sub hl [0, 1, 2] rfl)
    exact lp _ 0 (Nat.lt_succ_self _) (by omega) _ _ (S.sub [0, 1] (by decide) rfl) ls (lv_sub hl [0, 1, 2] rfl)
  refine lv_aload_n hx hb d_Mo_newCondition_0 rfl (lv_at hl 0 rfl) ?_
  refine r_get C K S 0 rfl rfl clOk_Mo 30 (by decide) wf_Mo_198 (v := .int (nI co9)) rfl d_Mo_newCondition_1 ?_
  refine lv_bipush (v := 90) hx hb d_Mo_newCondition_4 (by decide) ?_
  refine z_icmp_lt (a := co9) (b := 90) (tgt := 14) hx hb d_Mo_newCondition_6 (by decide) (by omega) (by omega) (fun hc2 => ?_) (fun hc2 => ?_)
  · refine lv_aload_n hx hb d_Mo_newCondition_14 rfl (lv_at hl 0 rfl) ?_
    refine lv_dup hx hb d_Mo_newCondition_15 rfl ?_
    refine r_get C K S 0 rfl rfl clOk_Mo 30 (by decide) wf_Mo_198 (v := .int (nI co9)) rfl d_Mo_newCondition_16 ?_
    refine lv_iconst (v := 1) hx hb d_Mo_newCondition_19 (by decide) ?_
    refine z_iadd (x := nI co9) (y := 1) (v := nI (co9 + 1)) hx hb d_Mo_newCondition_20 (nI_add co9 1) ?_
    refine r_put C K S 0 rfl rfl clOk_Mo 30 (by decide) wf_Mo_198 rfl (ty := .int) (v := .int (nI (co9 + 1))) (by decide +kernel) rfl rfl (Nat.le_of_ble_eq_true rfl) (fs' := moL ma (va_up (va_up iv 16 (nI fl)) 15 (nI (co9 + 1))) co) (ws' := [(h0, .inr (8, moL ma (va_up (va_up iv 16 (nI fl)) 15 (nI (co9 + 1))) co)), ((ma 15), .inl (k 1, 3690, .inr (.inl sm)))]) rfl rfl d_Mo_newCondition_21 (fun H locs S => ?_)
    refine lv_bipush (v := 41) hx hb d_Mo_newCondition_24 (by decide) ?_
    refine lv_aload_n hx hb d_Mo_newCondition_26 rfl (lv_at hl 0 rfl) ?_
    refine r_get C K S 0 rfl rfl clOk_Mo 30 (by decide) wf_Mo_198 (v := .int (nI (co9 + 1))) rfl d_Mo_newCondition_27 ?_
    refine lv_bipush (v := 90) hx hb d_Mo_newCondition_30 (by decide) ?_
    refine z_icmp_ge (a := (co9 + 1)) (b := 90) (tgt := 42) hx hb d_Mo_newCondition_32 (by decide) (by omega) (by omega) (fun hc3 => ?_) (fun hc3 => ?_)
    · refine lv_bipush (v := 90) hx hb d_Mo_newCondition_42 (by decide) ?_
      refine lv_iconst (v := 1) hx hb d_Mo_newCondition_44 (by decide) ?_
      refine lv_isub hx hb d_Mo_newCondition_45 ?_
      rw [show (90 : Int32) - 1 = 89 from by decide]
      refine lv_imul hx hb d_Mo_newCondition_46 ?_
      rw [show (41 : Int32) * 89 = 3649 from by decide]
      refine lv_istore_n (lv' := [(1, .int 3649), (0, .ref h0)]) hx hb d_Mo_newCondition_47 rfl hl (by decide) rfl (fun ls hl => ?_)
      have hf1 : fcN co9 fl = fl := if_neg (by omega)
      have hcx9 : 3649 = cxN co9 * 41 := by unfold cxN; split <;> omega
      have S : Sw G A s.heap H locs [(h0, .inr (8, moL ma (va_up (va_up iv 15 (nI (co9 + 1))) 16 (nI (fcN co9 fl))) co)), ((ma 15), .inl (k 1, 3690, .inr (.inl sm)))] := by rw [hf1]; exact S
      have hl : lv_has ls 3 [(1, .int (nI (cxN co9 * 41))), (0, .ref h0)] := by rw [← hcx9]; exact hl
      exact cont _ _ (S.sub [0, 1] (by decide) rfl) ls (lv_sub hl [0, 1] rfl)
    · refine lv_aload_n hx hb d_Mo_newCondition_35 rfl (lv_at hl 0 rfl) ?_
      refine r_get C K S 0 rfl rfl clOk_Mo 30 (by decide) wf_Mo_198 (v := .int (nI (co9 + 1))) rfl d_Mo_newCondition_36 ?_
      refine lv_goto (tgt := 44) hx hb d_Mo_newCondition_39 (by decide) ?_
      refine lv_iconst (v := 1) hx hb d_Mo_newCondition_44 (by decide) ?_
      refine z_isub (x := nI (co9 + 1)) (y := 1) (v := nI (co9 + 1 - 1)) hx hb d_Mo_newCondition_45 (pk_sub (a := (co9 + 1)) (b := 1) (by omega)) ?_
      refine z_imul (x := 41) (y := nI (co9 + 1 - 1)) (v := nI (41 * (co9 + 1 - 1))) hx hb d_Mo_newCondition_46 (pk_mul 41 (co9 + 1 - 1)) ?_
      refine lv_istore_n (lv' := [(1, .int (nI (41 * (co9 + 1 - 1)))), (0, .ref h0)]) hx hb d_Mo_newCondition_47 rfl hl (by decide) rfl (fun ls hl => ?_)
      have hf1 : fcN co9 fl = fl := if_neg (by omega)
      have hcx9 : (41 * (co9 + 1 - 1)) = cxN co9 * 41 := by unfold cxN; split <;> omega
      have S : Sw G A s.heap H locs [(h0, .inr (8, moL ma (va_up (va_up iv 15 (nI (co9 + 1))) 16 (nI (fcN co9 fl))) co)), ((ma 15), .inl (k 1, 3690, .inr (.inl sm)))] := by rw [hf1]; exact S
      have hl : lv_has ls 3 [(1, .int (nI (cxN co9 * 41))), (0, .ref h0)] := by rw [← hcx9]; exact hl
      exact cont _ _ (S.sub [0, 1] (by decide) rfl) ls (lv_sub hl [0, 1] rfl)
  · refine lv_aload_n hx hb d_Mo_newCondition_9 rfl (lv_at hl 0 rfl) ?_
    refine lv_iconst (v := 1) hx hb d_Mo_newCondition_10 (by decide) ?_
    refine r_put C K S 0 rfl rfl clOk_Mo 31 (by decide) wf_Mo_195 rfl (ty := .boolean) (v := .int 1) (by decide +kernel) rfl rfl (Nat.le_of_ble_eq_true rfl) (fs' := moL ma (va_up (va_up iv 15 (nI co9)) 16 1) co) (ws' := [(h0, .inr (8, moL ma (va_up (va_up iv 15 (nI co9)) 16 1) co)), ((ma 15), .inl (k 1, 3690, .inr (.inl sm)))]) rfl rfl d_Mo_newCondition_11 (fun H locs S => ?_)
    refine lv_aload_n hx hb d_Mo_newCondition_14 rfl (lv_at hl 0 rfl) ?_
    refine lv_dup hx hb d_Mo_newCondition_15 rfl ?_
    refine r_get C K S 0 rfl rfl clOk_Mo 30 (by decide) wf_Mo_198 (v := .int (nI co9)) rfl d_Mo_newCondition_16 ?_
    refine lv_iconst (v := 1) hx hb d_Mo_newCondition_19 (by decide) ?_
    refine z_iadd (x := nI co9) (y := 1) (v := nI (co9 + 1)) hx hb d_Mo_newCondition_20 (nI_add co9 1) ?_
    refine r_put C K S 0 rfl rfl clOk_Mo 30 (by decide) wf_Mo_198 rfl (ty := .int) (v := .int (nI (co9 + 1))) (by decide +kernel) rfl rfl (Nat.le_of_ble_eq_true rfl) (fs' := moL ma (va_up (va_up iv 16 1) 15 (nI (co9 + 1))) co) (ws' := [(h0, .inr (8, moL ma (va_up (va_up iv 16 1) 15 (nI (co9 + 1))) co)), ((ma 15), .inl (k 1, 3690, .inr (.inl sm)))]) rfl rfl d_Mo_newCondition_21 (fun H locs S => ?_)
    refine lv_bipush (v := 41) hx hb d_Mo_newCondition_24 (by decide) ?_
    refine lv_aload_n hx hb d_Mo_newCondition_26 rfl (lv_at hl 0 rfl) ?_
    refine r_get C K S 0 rfl rfl clOk_Mo 30 (by decide) wf_Mo_198 (v := .int (nI (co9 + 1))) rfl d_Mo_newCondition_27 ?_
    refine lv_bipush (v := 90) hx hb d_Mo_newCondition_30 (by decide) ?_
    refine z_icmp_ge (a := (co9 + 1)) (b := 90) (tgt := 42) hx hb d_Mo_newCondition_32 (by decide) (by omega) (by omega) (fun hc6 => ?_) (fun hc6 => ?_)
    · refine lv_bipush (v := 90) hx hb d_Mo_newCondition_42 (by decide) ?_
      refine lv_iconst (v := 1) hx hb d_Mo_newCondition_44 (by decide) ?_
      refine lv_isub hx hb d_Mo_newCondition_45 ?_
      rw [show (90 : Int32) - 1 = 89 from by decide]
      refine lv_imul hx hb d_Mo_newCondition_46 ?_
      rw [show (41 : Int32) * 89 = 3649 from by decide]
      refine lv_istore_n (lv' := [(1, .int 3649), (0, .ref h0)]) hx hb d_Mo_newCondition_47 rfl hl (by decide) rfl (fun ls hl => ?_)
      have hf1 : fcN co9 fl = 1 := if_pos (by omega)
      have hcx9 : 3649 = cxN co9 * 41 := by unfold cxN; split <;> omega
      have S : Sw G A s.heap H locs [(h0, .inr (8, moL ma (va_up (va_up iv 15 (nI (co9 + 1))) 16 (nI (fcN co9 fl))) co)), ((ma 15), .inl (k 1, 3690, .inr (.inl sm)))] := by rw [hf1]; exact S
      have hl : lv_has ls 3 [(1, .int (nI (cxN co9 * 41))), (0, .ref h0)] := by rw [← hcx9]; exact hl
      exact cont _ _ (S.sub [0, 1] (by decide) rfl) ls (lv_sub hl [0, 1] rfl)
    · refine lv_aload_n hx hb d_Mo_newCondition_35 rfl (lv_at hl 0 rfl) ?_
      refine r_get C K S 0 rfl rfl clOk_Mo 30 (by decide) wf_Mo_198 (v := .int (nI (co9 + 1))) rfl d_Mo_newCondition_36 ?_
      refine lv_goto (tgt := 44) hx hb d_Mo_newCondition_39 (by decide) ?_
      refine lv_iconst (v := 1) hx hb d_Mo_newCondition_44 (by decide) ?_
      refine z_isub (x := nI (co9 + 1)) (y := 1) (v := nI (co9 + 1 - 1)) hx hb d_Mo_newCondition_45 (pk_sub (a := (co9 + 1)) (b := 1) (by omega)) ?_
      refine z_imul (x := 41) (y := nI (co9 + 1 - 1)) (v := nI (41 * (co9 + 1 - 1))) hx hb d_Mo_newCondition_46 (pk_mul 41 (co9 + 1 - 1)) ?_
      refine lv_istore_n (lv' := [(1, .int (nI (41 * (co9 + 1 - 1)))), (0, .ref h0)]) hx hb d_Mo_newCondition_47 rfl hl (by decide) rfl (fun ls hl => ?_)
      have hf1 : fcN co9 fl = 1 := if_pos (by omega)
      have hcx9 : (41 * (co9 + 1 - 1)) = cxN co9 * 41 := by unfold cxN; split <;> omega
      have S : Sw G A s.heap H locs [(h0, .inr (8, moL ma (va_up (va_up iv 15 (nI (co9 + 1))) 16 (nI (fcN co9 fl))) co)), ((ma 15), .inl (k 1, 3690, .inr (.inl sm)))] := by rw [hf1]; exact S
      have hl : lv_has ls 3 [(1, .int (nI (cxN co9 * 41))), (0, .ref h0)] := by rw [← hcx9]; exact hl
      exact cont _ _ (S.sub [0, 1] (by decide) rfl) ls (lv_sub hl [0, 1] rfl)
theorem d_Mo_take_0 : decode c_Mo_take 0 = .ok (.iconst 0, 1) := by decide +kernel
theorem d_Mo_take_1 : decode c_Mo_take 1 = .ok (.istore_n 3, 1) := by decide +kernel
theorem d_Mo_take_2 : decode c_Mo_take 2 = .ok (.iload_n 3, 1) := by decide +kernel
theorem d_Mo_take_3 : decode c_Mo_take 3 = .ok (.bipush 41, 2) := by decide +kernel
theorem d_Mo_take_5 : decode c_Mo_take 5 = .ok (.if_icmp .ge 28, 3) := by decide +kernel
theorem d_Mo_take_8 : decode c_Mo_take 8 = .ok (.aload_n 0, 1) := by decide +kernel
theorem d_Mo_take_9 : decode c_Mo_take 9 = .ok (.getfield 64, 3) := by decide +kernel
theorem d_Mo_take_12 : decode c_Mo_take 12 = .ok (.iload_n 1, 1) := by decide +kernel
theorem d_Mo_take_13 : decode c_Mo_take 13 = .ok (.iload_n 3, 1) := by decide +kernel
theorem d_Mo_take_14 : decode c_Mo_take 14 = .ok (.iadd, 1) := by decide +kernel
theorem d_Mo_take_15 : decode c_Mo_take 15 = .ok (.dup2, 1) := by decide +kernel
theorem d_Mo_take_16 : decode c_Mo_take 16 = .ok (.laload, 1) := by decide +kernel
theorem d_Mo_take_17 : decode c_Mo_take 17 = .ok (.aload_n 0, 1) := by decide +kernel
theorem d_Mo_take_18 : decode c_Mo_take 18 = .ok (.getfield 57, 3) := by decide +kernel
theorem d_Mo_take_21 : decode c_Mo_take 21 = .ok (.iload_n 2, 1) := by decide +kernel
theorem d_Mo_take_22 : decode c_Mo_take 22 = .ok (.iload_n 3, 1) := by decide +kernel
theorem d_Mo_take_23 : decode c_Mo_take 23 = .ok (.iadd, 1) := by decide +kernel
theorem d_Mo_take_24 : decode c_Mo_take 24 = .ok (.laload, 1) := by decide +kernel
theorem d_Mo_take_25 : decode c_Mo_take 25 = .ok (.lsub, 1) := by decide +kernel
theorem d_Mo_take_26 : decode c_Mo_take 26 = .ok (.lastore, 1) := by decide +kernel
theorem d_Mo_take_27 : decode c_Mo_take 27 = .ok (.iinc 3 1, 3) := by decide +kernel
theorem d_Mo_take_30 : decode c_Mo_take 30 = .ok (.goto (-28), 3) := by decide +kernel
theorem d_Mo_take_33 : decode c_Mo_take 33 = .ok (.return_, 1) := by decide +kernel
set_option maxRecDepth 100000 in
set_option maxHeartbeats 16000000 in
/-- take(c9, x9) -/
theorem g_Mo_take (l : Launch) (G : va_G) (k : Nat → ClassId) (h0 : Nat) (s0 : Nat) (c9 : Nat) (x9 : Nat) (ma : Nat → Nat) (iv : Nat → Int32) (co : Int64) (L : Nat → Int64) (sm : Nat → Int64) (hc : c9 < 90) (hx9 : x9 < 902) : CV l y_Mo_take c_Mo_take 4 { frames := 0, cells := 0, slots := 0, locals := 0 } [.ref h0, .int (nI (c9 * 41)), .int (nI (x9 * 41))] G k s0 [(h0, .inr (8, moL ma iv co)), ((ma 13), .inl (k 1, 36982, .inr (.inl L))), ((ma 15), .inl (k 1, 3690, .inr (.inl sm)))] (fun (u : Unit) => True) (fun u => [(h0, .inr (8, moL ma iv co)), ((ma 13), .inl (k 1, 36982, .inr (.inl L))), ((ma 15), .inl (k 1, 3690, .inr (.inl (lnT sm L (x9 * 41) (c9 * 41) 41))))]) 0 0 := by
  refine met_start (by decide) (Nat.le_of_ble_eq_true rfl) ?_
  intro p e s m below meth c C K hA hsz S ls hl
  generalize va_A [(h0, .inr (8, moL ma iv co)), ((ma 13), .inl (k 1, 36982, .inr (.inl L))), ((ma 15), .inl (k 1, 3690, .inr (.inl sm)))] s0 = A at hA S ⊢
  have hx := C.1
  have hb := C.2.1
  have hl : lv_has ls 4 [(0, .ref h0), (1, .int (nI (c9 * 41))), (2, .int (nI (x9 * 41)))] := hl
  refine lv_iconst (v := 0) hx hb d_Mo_take_0 (by decide) ?_
  refine lv_istore_n (lv' := [(3, .int 0), (0, .ref h0), (1, .int (nI (c9 * 41))), (2, .int (nI (x9 * 41)))]) hx hb d_Mo_take_1 rfl hl (by decide) rfl (fun ls hl => ?_)
  have S : Sw G A s.heap s.heap [] [(h0, .inr (8, moL ma iv co)), ((ma 13), .inl (k 1, 36982, .inr (.inl L))), ((ma 15), .inl (k 1, 3690, .inr (.inl (lnT sm L (x9 * 41) (c9 * 41) 0))))] := by rw [lnT_0]; exact S
  have lp : ∀ d9, ∀ (t : Nat), (41 - t) < d9 → (t ≤ 41) → ∀ (H : Heap) (locs : List Loc), Sw G A s.heap H locs [(h0, .inr (8, moL ma iv co)), ((ma 13), .inl (k 1, 36982, .inr (.inl L))), ((ma 15), .inl (k 1, 3690, .inr (.inl (lnT sm L (x9 * 41) (c9 * 41) t))))] → ∀ ls : Array Slot, lv_has ls 4 [(3, .int (nI t)), (0, .ref h0), (1, .int (nI (c9 * 41))), (2, .int (nI (x9 * 41)))] → W p l e { frames := 0, cells := 0, slots := 0, locals := 0 } s m [Value.ref h0, Value.int (nI (c9 * 41)), Value.int (nI (x9 * 41))].toArray below meth c H locs 0 0 (MQ below (va_Qv (fun (u : Unit) => True) (Po G k A (fun u => [(h0, .inr (8, moL ma iv co)), ((ma 13), .inl (k 1, 36982, .inr (.inl L))), ((ma 15), .inl (k 1, 3690, .inr (.inl (lnT sm L (x9 * 41) (c9 * 41) 41))))])) A) [Value.ref h0, Value.int (nI (c9 * 41)), Value.int (nI (x9 * 41))].toArray s 0 0 A) (F0 m 2 ls []) := by
    intro d9
    induction d9 with
    | zero => intro t hm; exact absurd hm (Nat.not_lt_zero _)
    | succ d9 ih_lp =>
      intro t hm ht H locs S ls hl
      refine lv_iload_n hx hb d_Mo_take_2 rfl (lv_at hl 0 rfl) ?_
      refine lv_bipush (v := 41) hx hb d_Mo_take_3 (by decide) ?_
      refine z_icmp_ge (a := t) (b := 41) (tgt := 33) hx hb d_Mo_take_5 (by decide) (by omega) (by omega) (fun hc1 => ?_) (fun hc1 => ?_)
      · have ht9 : t = 41 := by omega
        have S : Sw G A s.heap H locs [(h0, .inr (8, moL ma iv co)), ((ma 13), .inl (k 1, 36982, .inr (.inl L))), ((ma 15), .inl (k 1, 3690, .inr (.inl (lnT sm L (x9 * 41) (c9 * 41) 41))))] := by rw [ht9] at S; exact S
        exact r_vret C K () trivial (S.sub [0, 1, 2] (by decide) rfl) d_Mo_take_33 (Nat.le_of_ble_eq_true rfl) (Nat.le_of_ble_eq_true rfl)
      · refine lv_aload_n hx hb d_Mo_take_8 rfl (lv_at hl 1 rfl) ?_
        refine r_get C K S 0 rfl rfl clOk_Mo 33 (by decide) wf_Mo_64 (v := .ref (ma 15)) rfl d_Mo_take_9 ?_
        refine lv_iload_n hx hb d_Mo_take_12 rfl (lv_at hl 2 rfl) ?_
        refine lv_iload_n hx hb d_Mo_take_13 rfl (lv_at hl 0 rfl) ?_
        refine z_iadd (x := nI (c9 * 41)) (y := nI t) (v := nI (c9 * 41 + t)) hx hb d_Mo_take_14 (nI_add (c9 * 41) t) ?_
        refine lv_dup2_11 hx hb d_Mo_take_15 rfl rfl ?_
        refine r_lald C K S 2 rfl (i := nI (c9 * 41 + t)) (show vp_in (nI (c9 * 41 + t)) _ from vp_in_nI (n := (c9 * 41 + t)) (by omega) (by decide)) (v := (lnT sm L (x9 * 41) (c9 * 41) t) (c9 * 41 + t)) (by rw [nI_clamp (by omega)]) d_Mo_take_16 ?_
        refine lv_aload_n hx hb d_Mo_take_17 rfl (lv_at hl 1 rfl) ?_
        refine r_get C K S 0 rfl rfl clOk_Mo 27 (by decide) wf_Mo_57 (v := .ref (ma 13)) rfl d_Mo_take_18 ?_
        refine lv_iload_n hx hb d_Mo_take_21 rfl (lv_at hl 3 rfl) ?_
        refine lv_iload_n hx hb d_Mo_take_22 rfl (lv_at hl 0 rfl) ?_
        refine z_iadd (x := nI (x9 * 41)) (y := nI t) (v := nI (x9 * 41 + t)) hx hb d_Mo_take_23 (nI_add (x9 * 41) t) ?_
        refine r_lald C K S 1 rfl (i := nI (x9 * 41 + t)) (show vp_in (nI (x9 * 41 + t)) _ from vp_in_nI (n := (x9 * 41 + t)) (by omega) (by decide)) (v := L (x9 * 41 + t)) (by rw [nI_clamp (by omega)]) d_Mo_take_24 ?_
        refine lv_lsub hx hb d_Mo_take_25 ?_
        refine r_last C K S 2 rfl (i := nI (c9 * 41 + t)) (x := ((lnT sm L (x9 * 41) (c9 * 41) t) (c9 * 41 + t)) - (L (x9 * 41 + t))) (show vp_in (nI (c9 * 41 + t)) _ from vp_in_nI (n := (c9 * 41 + t)) (by omega) (by decide)) (f' := va_up (lnT sm L (x9 * 41) (c9 * 41) t) (c9 * 41 + t) (((lnT sm L (x9 * 41) (c9 * 41) t) (c9 * 41 + t)) - (L (x9 * 41 + t)))) (ws' := [(h0, .inr (8, moL ma iv co)), ((ma 13), .inl (k 1, 36982, .inr (.inl L))), ((ma 15), .inl (k 1, 3690, .inr (.inl (va_up (lnT sm L (x9 * 41) (c9 * 41) t) (c9 * 41 + t) (((lnT sm L (x9 * 41) (c9 * 41) t) (c9 * 41 + t)) - (L (x9 * 41 + t)))))))]) (show vp_updL _ (nI (c9 * 41 + t) : Int32).toNatClampNeg _ = _ from vp_updL_eq (lnT sm L (x9 * 41) (c9 * 41) t) (j := (c9 * 41 + t)) (by omega) (((lnT sm L (x9 * 41) (c9 * 41) t) (c9 * 41 + t)) - (L (x9 * 41 + t)))) rfl d_Mo_take_26 (fun H locs S => ?_)
        have S : Sw G A s.heap H locs [(h0, .inr (8, moL ma iv co)), ((ma 13), .inl (k 1, 36982, .inr (.inl L))), ((ma 15), .inl (k 1, 3690, .inr (.inl (lnT sm L (x9 * 41) (c9 * 41) (t + 1)))))] := by rw [lnT_own, lnT_s] at S; exact S
        refine lv_iinc (v := nI (t + 1)) (lv' := [(3, .int (nI (t + 1))), (0, .ref h0), (1, .int (nI (c9 * 41))), (2, .int (nI (x9 * 41)))]) hx hb d_Mo_take_27 hl (k := 0) rfl (show nI t + Int32.ofInt 1 = nI (t + 1) from (nI_add t 1).trans (congrArg nI (by omega))) (by decide) rfl (fun ls hl => ?_)
        refine lv_goto (tgt := 2) hx hb d_Mo_take_30 (by decide) ?_
        exact ih_lp (t + 1) (by omega) (by omega) _ _ (S.sub [0, 1, 2] (by decide) rfl) ls (lv_sub hl [0, 1, 2, 3] rfl)
  exact lp _ 0 (Nat.lt_succ_self _) (by omega) _ _ (S.sub [0, 1, 2] (by decide) rfl) ls (lv_sub hl [0, 1, 2, 3] rfl)
theorem d_Mo_atLeast_0 : decode c_Mo_atLeast 0 = .ok (.aload_n 0, 1) := by decide +kernel
theorem d_Mo_atLeast_1 : decode c_Mo_atLeast 1 = .ok (.invokevirtual 201, 3) := by decide +kernel
theorem d_Mo_atLeast_4 : decode c_Mo_atLeast 4 = .ok (.istore_n 3, 1) := by decide +kernel
theorem d_Mo_atLeast_5 : decode c_Mo_atLeast 5 = .ok (.aload_n 0, 1) := by decide +kernel
theorem d_Mo_atLeast_6 : decode c_Mo_atLeast 6 = .ok (.getfield 64, 3) := by decide +kernel
theorem d_Mo_atLeast_9 : decode c_Mo_atLeast 9 = .ok (.iload_n 3, 1) := by decide +kernel
theorem d_Mo_atLeast_10 : decode c_Mo_atLeast 10 = .ok (.iload_n 1, 1) := by decide +kernel
theorem d_Mo_atLeast_11 : decode c_Mo_atLeast 11 = .ok (.iadd, 1) := by decide +kernel
theorem d_Mo_atLeast_12 : decode c_Mo_atLeast 12 = .ok (.dup2, 1) := by decide +kernel
theorem d_Mo_atLeast_13 : decode c_Mo_atLeast 13 = .ok (.laload, 1) := by decide +kernel
theorem d_Mo_atLeast_14 : decode c_Mo_atLeast 14 = .ok (.lconst 1, 1) := by decide +kernel
theorem d_Mo_atLeast_15 : decode c_Mo_atLeast 15 = .ok (.ladd, 1) := by decide +kernel
theorem d_Mo_atLeast_16 : decode c_Mo_atLeast 16 = .ok (.lastore, 1) := by decide +kernel
theorem d_Mo_atLeast_17 : decode c_Mo_atLeast 17 = .ok (.aload_n 0, 1) := by decide +kernel
theorem d_Mo_atLeast_18 : decode c_Mo_atLeast 18 = .ok (.iload_n 3, 1) := by decide +kernel
theorem d_Mo_atLeast_19 : decode c_Mo_atLeast 19 = .ok (.iload_n 2, 1) := by decide +kernel
theorem d_Mo_atLeast_20 : decode c_Mo_atLeast 20 = .ok (.invokevirtual 205, 3) := by decide +kernel
theorem d_Mo_atLeast_23 : decode c_Mo_atLeast 23 = .ok (.return_, 1) := by decide +kernel
set_option maxRecDepth 100000 in
set_option maxHeartbeats 16000000 in
/-- atLeast(u9, x9) -/
theorem g_Mo_atLeast (l : Launch) (G : va_G) (k : Nat → ClassId) (h0 : Nat) (s0 : Nat) (u9 : Nat) (x9 : Nat) (co9 : Nat) (fl : Nat) (ma : Nat → Nat) (iv : Nat → Int32) (co : Int64) (L : Nat → Int64) (sm : Nat → Int64) (hu9 : u9 < 41) (hx9 : x9 < 902) (hco : co9 ≤ 10000) (hfl : fl ≤ 1) : CV l y_Mo_atLeast c_Mo_atLeast 4 { frames := 1, cells := 0, slots := 0, locals := 23 } [.ref h0, .int (nI u9), .int (nI (x9 * 41))] G k s0 [(h0, .inr (8, moL ma (va_up (va_up iv 15 (nI co9)) 16 (nI fl)) co)), ((ma 13), .inl (k 1, 36982, .inr (.inl L))), ((ma 15), .inl (k 1, 3690, .inr (.inl sm)))] (fun (u : Nat → Int64) => (∀ x, x ≠ cxN co9 → lz u x = lz sm x) ∧ lz u (cxN co9) ≤ 1 + lz L x9) (fun u => [(h0, .inr (8, moL ma (va_up (va_up iv 15 (nI (co9 + 1))) 16 (nI (fcN co9 fl))) co)), ((ma 13), .inl (k 1, 36982, .inr (.inl L))), ((ma 15), .inl (k 1, 3690, .inr (.inl u)))]) 0 0 := by
  refine met_start (by decide) (Nat.le_of_ble_eq_true rfl) ?_
  intro p e s m below meth c C K hA hsz S ls hl
  generalize va_A [(h0, .inr (8, moL ma (va_up (va_up iv 15 (nI co9)) 16 (nI fl)) co)), ((ma 13), .inl (k 1, 36982, .inr (.inl L))), ((ma 15), .inl (k 1, 3690, .inr (.inl sm)))] s0 = A at hA S ⊢
  have hx := C.1
  have hb := C.2.1
  have hl : lv_has ls 4 [(0, .ref h0), (1, .int (nI u9)), (2, .int (nI (x9 * 41)))] := hl
  have hcx := cxN_lt co9
  refine lv_aload_n hx hb d_Mo_atLeast_0 rfl (lv_at hl 0 rfl) ?_
  refine r_backi (wi := [(h0, .inr (8, moL ma (va_up (va_up iv 15 (nI co9)) 16 (nI fl)) co)), ((ma 15), .inl (k 1, 3690, .inr (.inl sm)))]) (wr := [((ma 13), .inl (k 1, 36982, .inr (.inl L)))]) S hA [0, 2] [1] rfl rfl (by decide) (by decide) (va_runV (As := []) (rest := []) ⟨hx, hb, C.2.2.1, C.2.2.2.1, C.2.2.2.2.1⟩ (g_Mo_newCondition l G k h0 _ co9 fl ma iv co sm (by first | assumption | omega) (by first | assumption | omega)) (k_virt (n := 0) C wc_Mo_newCondition rfl rfl wz_Mo wm_Mo_201 wn_Mo_newCondition ws_Mo_newCondition (by decide +kernel) ⟨(Nat.le_of_ble_eq_true rfl), (Nat.le_of_ble_eq_true rfl)⟩) (pr_nowV K S [0, 2] (by decide) rfl 0 rfl rfl) rfl rfl hl.1 rfl (lv_room (Nat.le_of_ble_eq_true rfl)) d_Mo_atLeast_1 ⟨(Nat.le_of_ble_eq_true rfl), (Nat.le_of_ble_eq_true rfl)⟩) (fun r3 u1 H locs hw2 S => ?_)
  have S : Sw G A s.heap _ _ [((ma 13), .inl (k 1, 36982, .inr (.inl L))), (h0, .inr (8, moL ma (va_up (va_up iv 15 (nI (co9 + 1))) 16 (nI (fcN co9 fl))) co)), ((ma 15), .inl (k 1, 3690, .inr (.inl (lnC sm (cxN co9 * 41) 41))))] := S
  obtain ⟨hw20, hp4⟩ := hw2
  obtain rfl : r3 = nI (cxN co9 * 41) := hw20
  refine lv_istore_n (lv' := [(3, .int (nI (cxN co9 * 41))), (0, .ref h0), (1, .int (nI u9)), (2, .int (nI (x9 * 41)))]) hx hb d_Mo_atLeast_4 rfl hl (by decide) rfl (fun ls hl => ?_)
  refine lv_aload_n hx hb d_Mo_atLeast_5 rfl (lv_at hl 1 rfl) ?_
  refine r_get C K S 1 rfl rfl clOk_Mo 33 (by decide) wf_Mo_64 (v := .ref (ma 15)) rfl d_Mo_atLeast_6 ?_
  refine lv_iload_n hx hb d_Mo_atLeast_9 rfl (lv_at hl 0 rfl) ?_
  refine lv_iload_n hx hb d_Mo_atLeast_10 rfl (lv_at hl 2 rfl) ?_
  refine z_iadd (x := nI (cxN co9 * 41)) (y := nI u9) (v := nI (cxN co9 * 41 + u9)) hx hb d_Mo_atLeast_11 (nI_add (cxN co9 * 41) u9) ?_
  refine lv_dup2_11 hx hb d_Mo_atLeast_12 rfl rfl ?_
  refine r_lald C K S 2 rfl (i := nI (cxN co9 * 41 + u9)) (show vp_in (nI (cxN co9 * 41 + u9)) _ from vp_in_nI (n := (cxN co9 * 41 + u9)) (by omega) (by decide)) (v := (lnC sm (cxN co9 * 41) 41) (cxN co9 * 41 + u9)) (by rw [nI_clamp (by omega)]) d_Mo_atLeast_13 ?_
  refine lv_lconst (v := 1) hx hb d_Mo_atLeast_14 (by decide) ?_
  refine lv_ladd hx hb d_Mo_atLeast_15 ?_
  refine r_last C K S 2 rfl (i := nI (cxN co9 * 41 + u9)) (x := ((lnC sm (cxN co9 * 41) 41) (cxN co9 * 41 + u9)) + 1) (show vp_in (nI (cxN co9 * 41 + u9)) _ from vp_in_nI (n := (cxN co9 * 41 + u9)) (by omega) (by decide)) (f' := va_up (lnC sm (cxN co9 * 41) 41) (cxN co9 * 41 + u9) (((lnC sm (cxN co9 * 41) 41) (cxN co9 * 41 + u9)) + 1)) (ws' := [((ma 13), .inl (k 1, 36982, .inr (.inl L))), (h0, .inr (8, moL ma (va_up (va_up iv 15 (nI (co9 + 1))) 16 (nI (fcN co9 fl))) co)), ((ma 15), .inl (k 1, 3690, .inr (.inl (va_up (lnC sm (cxN co9 * 41) 41) (cxN co9 * 41 + u9) (((lnC sm (cxN co9 * 41) 41) (cxN co9 * 41 + u9)) + 1)))))]) (show vp_updL _ (nI (cxN co9 * 41 + u9) : Int32).toNatClampNeg _ = _ from vp_updL_eq (lnC sm (cxN co9 * 41) 41) (j := (cxN co9 * 41 + u9)) (by omega) (((lnC sm (cxN co9 * 41) 41) (cxN co9 * 41 + u9)) + 1)) rfl d_Mo_atLeast_16 (fun H locs S => ?_)
  refine lv_aload_n hx hb d_Mo_atLeast_17 rfl (lv_at hl 1 rfl) ?_
  refine lv_iload_n hx hb d_Mo_atLeast_18 rfl (lv_at hl 0 rfl) ?_
  refine lv_iload_n hx hb d_Mo_atLeast_19 rfl (lv_at hl 3 rfl) ?_
  refine r_backv (wi := [(h0, .inr (8, moL ma (va_up (va_up iv 15 (nI (co9 + 1))) 16 (nI (fcN co9 fl))) co)), ((ma 13), .inl (k 1, 36982, .inr (.inl L))), ((ma 15), .inl (k 1, 3690, .inr (.inl (va_up (lnC sm (cxN co9 * 41) 41) (cxN co9 * 41 + u9) (((lnC sm (cxN co9 * 41) 41) (cxN co9 * 41 + u9)) + 1)))))]) (wr := []) S hA [1, 0, 2] [] rfl rfl (by decide) (by decide) (va_runV (As := [.int (nI (cxN co9 * 41)), .int (nI (x9 * 41))]) (rest := []) ⟨hx, hb, C.2.2.1, C.2.2.2.1, C.2.2.2.2.1⟩ (g_Mo_take l G k h0 _ (cxN co9) x9 ma (va_up (va_up iv 15 (nI (co9 + 1))) 16 (nI (fcN co9 fl))) co L (va_up (lnC sm (cxN co9 * 41) 41) (cxN co9 * 41 + u9) (((lnC sm (cxN co9 * 41) 41) (cxN co9 * 41 + u9)) + 1)) hcx hx9) (k_virt (n := 2) C wc_Mo_take rfl rfl wz_Mo wm_Mo_205 wn_Mo_take ws_Mo_take (by decide +kernel) ⟨(Nat.le_of_ble_eq_true rfl), (Nat.le_of_ble_eq_true rfl)⟩) (pr_nowV K S [1, 0, 2] (by decide) rfl 1 rfl rfl) rfl rfl hl.1 rfl (lv_room (Nat.le_of_ble_eq_true rfl)) d_Mo_atLeast_20 ⟨(Nat.le_of_ble_eq_true rfl), (Nat.le_of_ble_eq_true rfl)⟩) (fun u5 H locs hw6 S => ?_)
  have S : Sw G A s.heap _ _ [(h0, .inr (8, moL ma (va_up (va_up iv 15 (nI (co9 + 1))) 16 (nI (fcN co9 fl))) co)), ((ma 13), .inl (k 1, 36982, .inr (.inl L))), ((ma 15), .inl (k 1, 3690, .inr (.inl (lnT (va_up (lnC sm (cxN co9 * 41) 41) (cxN co9 * 41 + u9) (((lnC sm (cxN co9 * 41) 41) (cxN co9 * 41 + u9)) + 1)) L (x9 * 41) ((cxN co9) * 41) 41))))] := S
  exact r_vret C K (lnT (va_up (lnC sm (cxN co9 * 41) 41) (cxN co9 * 41 + u9) (((lnC sm (cxN co9 * 41) 41) (cxN co9 * 41 + u9)) + 1)) L (x9 * 41) (cxN co9 * 41) 41) ⟨fun x hx => by rw [lz_T_ne hx, lz_up_ne hu9 hx, lz_C_ne hx], Nat.le_trans lz_T (Nat.add_le_add_right (Nat.le_trans (lz_inc (l1_inc _)) (by rw [lz_C]; exact Nat.le_refl _)) _)⟩ (S.sub [0, 1, 2] (by decide) rfl) d_Mo_atLeast_23 (Nat.le_of_ble_eq_true rfl) (Nat.le_of_ble_eq_true rfl)
