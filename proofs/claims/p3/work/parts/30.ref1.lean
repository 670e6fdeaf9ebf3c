/-- how many digits are left when the highest are 0 -/
def cutN (f : Nat → Int32) : Nat → Nat
  | 0 => 0
  | t + 1 => if f t = 0 then cutN f t else t + 1
theorem d_Mo_cut2_0 : decode c_Mo_cut2 0 = .ok (.iload_n 1, 1) := by decide +kernel
theorem d_Mo_cut2_1 : decode c_Mo_cut2 1 = .ok (.istore_n 2, 1) := by decide +kernel
theorem d_Mo_cut2_2 : decode c_Mo_cut2 2 = .ok (.iload_n 2, 1) := by decide +kernel
theorem d_Mo_cut2_3 : decode c_Mo_cut2 3 = .ok (.ifCond .le 17, 3) := by decide +kernel
theorem d_Mo_cut2_6 : decode c_Mo_cut2 6 = .ok (.aload_n 0, 1) := by decide +kernel
theorem d_Mo_cut2_7 : decode c_Mo_cut2 7 = .ok (.iload_n 2, 1) := by decide +kernel
theorem d_Mo_cut2_8 : decode c_Mo_cut2 8 = .ok (.iconst 1, 1) := by decide +kernel
theorem d_Mo_cut2_9 : decode c_Mo_cut2 9 = .ok (.isub, 1) := by decide +kernel
theorem d_Mo_cut2_10 : decode c_Mo_cut2 10 = .ok (.iaload, 1) := by decide +kernel
theorem d_Mo_cut2_11 : decode c_Mo_cut2 11 = .ok (.ifCond .ne 9, 3) := by decide +kernel
theorem d_Mo_cut2_14 : decode c_Mo_cut2 14 = .ok (.iinc 2 (-1), 3) := by decide +kernel
theorem d_Mo_cut2_17 : decode c_Mo_cut2 17 = .ok (.goto (-15), 3) := by decide +kernel
theorem d_Mo_cut2_20 : decode c_Mo_cut2 20 = .ok (.iload_n 2, 1) := by decide +kernel
theorem d_Mo_cut2_21 : decode c_Mo_cut2 21 = .ok (.ireturn, 1) := by decide +kernel
set_option maxRecDepth 100000 in
set_option maxHeartbeats 4000000 in
/-- cut(d, n) -/
theorem k_Mo_cut2 (l : Launch) (G : va_G) (k : Nat → ClassId) (d sz len n : Nat) (f : Nat → Int32) (hn : n ≤ len) (hlen : len < 2 ^ 31) : CI l y_Mo_cut2 c_Mo_cut2 3 .int { frames := 0, cells := 0, slots := 0, locals := 0 } [.ref d, .int (nI n)] G k sz [(d, .inl (k 0, len, .inl f))] (fun (r : Int32) (_ : Unit) => r = nI (cutN f n)) (fun _ => [(d, .inl (k 0, len, .inl f))]) 0 0 := by
  refine met_start (by decide) (Nat.le_of_ble_eq_true rfl) ?_
  intro p e s m below meth c C K hA hsz S ls hl
  generalize va_A [(d, .inl (k 0, len, .inl f))] sz = A at hA S ⊢
  have hx := C.1
  have hb := C.2.1
  have hl : lv_has ls 3 [(0, .ref d), (1, .int (nI n))] := hl
  refine lv_iload_n hx hb d_Mo_cut2_0 rfl (lv_at hl 1 rfl) ?_
  refine lv_istore_n (lv' := [(2, .int (nI n)), (0, .ref d), (1, .int (nI n))]) hx hb d_Mo_cut2_1 rfl hl (by decide) rfl (fun ls hl => ?_)
  have loop : ∀ t, t ≤ n → cutN f t = cutN f n → ∀ ls : Array Slot, lv_has ls 3 [(2, .int (nI t)), (0, .ref d), (1, .int (nI n))] → W p l e { frames := 0, cells := 0, slots := 0, locals := 0 } s m [Value.ref d, Value.int (nI n)].toArray below meth c s.heap [] 0 0 (MQ below (va_Qi (fun (r : Int32) (_ : Unit) => r = nI (cutN f n)) (Po G k A (fun _ => [(d, .inl (k 0, len, .inl f))])) A) [Value.ref d, Value.int (nI n)].toArray s 0 0 A) (F0 m 2 ls []) := by
    intro t
    induction t with
    | zero =>
      intro ht he ls hl
      refine lv_iload_n hx hb d_Mo_cut2_2 rfl (lv_at hl 0 rfl) ?_
      refine lv_if_le (tgt := 20) hx hb d_Mo_cut2_3 (by decide) (fun _ => ?_) (fun hq => absurd (by decide) hq)
      refine lv_iload_n hx hb d_Mo_cut2_20 rfl (lv_at hl 0 rfl) ?_
      exact r_iret C K rfl () (by rw [← he]; rfl) S d_Mo_cut2_21 (Nat.le_of_ble_eq_true rfl) (Nat.le_of_ble_eq_true rfl)
    | succ t ih =>
      intro ht he ls hl
      refine lv_iload_n hx hb d_Mo_cut2_2 rfl (lv_at hl 0 rfl) ?_
      refine lv_if_le (tgt := 20) hx hb d_Mo_cut2_3 (by decide) (fun hq => absurd hq (nI_nle (by omega) (by omega))) (fun _ => ?_)
      refine lv_aload_n hx hb d_Mo_cut2_6 rfl (lv_at hl 1 rfl) ?_
      refine lv_iload_n hx hb d_Mo_cut2_7 rfl (lv_at hl 0 rfl) ?_
      refine lv_iconst (v := 1) hx hb d_Mo_cut2_8 (by decide) ?_
      refine lv_isub hx hb d_Mo_cut2_9 ?_
      rw [nI_pred]
      refine r_iald C K S 0 rfl (i := nI t) (vp_in_nI (by omega) hlen) (v := f t) (by rw [nI_clamp (by omega)]) d_Mo_cut2_10 ?_
      refine lv_if_ne (tgt := 20) hx hb d_Mo_cut2_11 (by decide) (fun hq => ?_) (fun hq => ?_)
      · refine lv_iload_n hx hb d_Mo_cut2_20 rfl (lv_at hl 0 rfl) ?_
        exact r_iret C K rfl () (by rw [← he, cutN, if_neg hq]) S d_Mo_cut2_21 (Nat.le_of_ble_eq_true rfl) (Nat.le_of_ble_eq_true rfl)
      · refine lv_iinc (v := nI t) (lv' := [(2, .int (nI t)), (0, .ref d), (1, .int (nI n))]) hx hb d_Mo_cut2_14 hl (k := 0) rfl (by rw [show Int32.ofInt (-1) = -1 from by decide]; exact pk_m1 t) (by decide) rfl (fun ls hl => ?_)
        refine lv_goto (tgt := 2) hx hb d_Mo_cut2_17 (by decide) ?_
        exact ih (by omega) (by rw [← he, cutN, if_pos hq]) ls hl
  exact loop n (Nat.le_refl n) rfl ls hl
