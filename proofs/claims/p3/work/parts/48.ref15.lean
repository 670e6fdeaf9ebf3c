/-- digits of a quotient kept in a cell, up to t -/
def dgQ (dg qt : Nat → Nat) (b t : Nat) : Nat → Nat := fun i => if b ≤ i ∧ i < b + t then qt (i - b) else dg i
theorem dgQ_0 (dg qt : Nat → Nat) (b : Nat) : dgQ dg qt b 0 = dg := by
  funext i
  unfold dgQ
  rw [if_neg (by omega)]
theorem dgQ_s (dg qt : Nat → Nat) (b t : Nat) : va_up (dgQ dg qt b t) (b + t) (qt t) = dgQ dg qt b (t + 1) := by
  funext i
  unfold va_up dgQ
  by_cases q : i = b + t
  · rw [if_pos q, if_pos (by omega), q, Nat.add_sub_cancel_left]
  · rw [if_neg q]
    by_cases q2 : b ≤ i ∧ i < b + t
    · rw [if_pos q2, if_pos (by omega)]
    · rw [if_neg q2, if_neg (by omega)]
def kqB (n o t : Nat) : Nat := if n = 0 then 0 else if o = t then 0 else 1
theorem d_Mo_keepQuotient_0 : decode c_Mo_keepQuotient 0 = .ok (.iconst 0, 1) := by decide +kernel
theorem d_Mo_keepQuotient_1 : decode c_Mo_keepQuotient 1 = .ok (.istore_n 3, 1) := by decide +kernel
theorem d_Mo_keepQuotient_2 : decode c_Mo_keepQuotient 2 = .ok (.iload_n 3, 1) := by decide +kernel
theorem d_Mo_keepQuotient_3 : decode c_Mo_keepQuotient 3 = .ok (.aload_n 0, 1) := by decide +kernel
theorem d_Mo_keepQuotient_4 : decode c_Mo_keepQuotient 4 = .ok (.getfield 313, 3) := by decide +kernel
theorem d_Mo_keepQuotient_7 : decode c_Mo_keepQuotient 7 = .ok (.if_icmp .ge 26, 3) := by decide +kernel
theorem d_Mo_keepQuotient_10 : decode c_Mo_keepQuotient 10 = .ok (.aload_n 0, 1) := by decide +kernel
theorem d_Mo_keepQuotient_11 : decode c_Mo_keepQuotient 11 = .ok (.getfield 83, 3) := by decide +kernel
theorem d_Mo_keepQuotient_14 : decode c_Mo_keepQuotient 14 = .ok (.iload_n 1, 1) := by decide +kernel
theorem d_Mo_keepQuotient_15 : decode c_Mo_keepQuotient 15 = .ok (.bipush 80, 2) := by decide +kernel
theorem d_Mo_keepQuotient_17 : decode c_Mo_keepQuotient 17 = .ok (.imul, 1) := by decide +kernel
theorem d_Mo_keepQuotient_18 : decode c_Mo_keepQuotient 18 = .ok (.iload_n 3, 1) := by decide +kernel
theorem d_Mo_keepQuotient_19 : decode c_Mo_keepQuotient 19 = .ok (.iadd, 1) := by decide +kernel
theorem d_Mo_keepQuotient_20 : decode c_Mo_keepQuotient 20 = .ok (.aload_n 0, 1) := by decide +kernel
theorem d_Mo_keepQuotient_21 : decode c_Mo_keepQuotient 21 = .ok (.getfield 99, 3) := by decide +kernel
theorem d_Mo_keepQuotient_24 : decode c_Mo_keepQuotient 24 = .ok (.iload_n 3, 1) := by decide +kernel
theorem d_Mo_keepQuotient_25 : decode c_Mo_keepQuotient 25 = .ok (.iaload, 1) := by decide +kernel
theorem d_Mo_keepQuotient_26 : decode c_Mo_keepQuotient 26 = .ok (.iastore, 1) := by decide +kernel
theorem d_Mo_keepQuotient_27 : decode c_Mo_keepQuotient 27 = .ok (.iinc 3 1, 3) := by decide +kernel
theorem d_Mo_keepQuotient_30 : decode c_Mo_keepQuotient 30 = .ok (.goto (-28), 3) := by decide +kernel
theorem d_Mo_keepQuotient_33 : decode c_Mo_keepQuotient 33 = .ok (.aload_n 0, 1) := by decide +kernel
theorem d_Mo_keepQuotient_34 : decode c_Mo_keepQuotient 34 = .ok (.getfield 86, 3) := by decide +kernel
theorem d_Mo_keepQuotient_37 : decode c_Mo_keepQuotient 37 = .ok (.iload_n 1, 1) := by decide +kernel
theorem d_Mo_keepQuotient_38 : decode c_Mo_keepQuotient 38 = .ok (.aload_n 0, 1) := by decide +kernel
theorem d_Mo_keepQuotient_39 : decode c_Mo_keepQuotient 39 = .ok (.getfield 313, 3) := by decide +kernel
theorem d_Mo_keepQuotient_42 : decode c_Mo_keepQuotient 42 = .ok (.iastore, 1) := by decide +kernel
theorem d_Mo_keepQuotient_43 : decode c_Mo_keepQuotient 43 = .ok (.aload_n 0, 1) := by decide +kernel
theorem d_Mo_keepQuotient_44 : decode c_Mo_keepQuotient 44 = .ok (.getfield 89, 3) := by decide +kernel
theorem d_Mo_keepQuotient_47 : decode c_Mo_keepQuotient 47 = .ok (.iload_n 1, 1) := by decide +kernel
theorem d_Mo_keepQuotient_48 : decode c_Mo_keepQuotient 48 = .ok (.aload_n 0, 1) := by decide +kernel
theorem d_Mo_keepQuotient_49 : decode c_Mo_keepQuotient 49 = .ok (.getfield 313, 3) := by decide +kernel
theorem d_Mo_keepQuotient_52 : decode c_Mo_keepQuotient 52 = .ok (.ifCond .le 15, 3) := by decide +kernel
theorem d_Mo_keepQuotient_55 : decode c_Mo_keepQuotient 55 = .ok (.aload_n 0, 1) := by decide +kernel
theorem d_Mo_keepQuotient_56 : decode c_Mo_keepQuotient 56 = .ok (.getfield 289, 3) := by decide +kernel
theorem d_Mo_keepQuotient_59 : decode c_Mo_keepQuotient 59 = .ok (.iload_n 2, 1) := by decide +kernel
theorem d_Mo_keepQuotient_60 : decode c_Mo_keepQuotient 60 = .ok (.if_icmp .eq 7, 3) := by decide +kernel
theorem d_Mo_keepQuotient_63 : decode c_Mo_keepQuotient 63 = .ok (.iconst 1, 1) := by decide +kernel
theorem d_Mo_keepQuotient_64 : decode c_Mo_keepQuotient 64 = .ok (.goto 4, 3) := by decide +kernel
theorem d_Mo_keepQuotient_67 : decode c_Mo_keepQuotient 67 = .ok (.iconst 0, 1) := by decide +kernel
theorem d_Mo_keepQuotient_68 : decode c_Mo_keepQuotient 68 = .ok (.bastore, 1) := by decide +kernel
theorem d_Mo_keepQuotient_69 : decode c_Mo_keepQuotient 69 = .ok (.return_, 1) := by decide +kernel
set_option maxRecDepth 100000 in
set_option maxHeartbeats 8000000 in
/-- keepQuotient(c0, tu) -/
theorem g_Mo_keepQuotient (l : Launch) (G : va_G) (k : Nat → ClassId) (h0 s0 c0 tu qn ob : Nat) (ma : Nat → Nat) (iv : Nat → Int32) (co : Int64) (dg sz bl qt : Nat → Nat) (kc : c0 < 3998) (hq : qn ≤ 80) (ho : ob ≤ 1) (ht9 : tu ≤ 1) : CV l y_Mo_keepQuotient c_Mo_keepQuotient 4 { frames := 0, cells := 0, slots := 0, locals := 0 } [.ref h0, .int (nI c0), .int (nI tu)] G k s0 [(h0, .inr (8, moL ma (va_up (va_up iv 23 (nI qn)) 21 (nI ob)) co)), ((ma 21), .inl (k 0, 319840, .inl (fun i => nI (dg i)))), ((ma 22), .inl (k 0, 3998, .inl (fun i => nI (sz i)))), ((ma 23), .inl (k 2, 3998, .inl (fun i => nI (bl i)))), ((ma 26), .inl (k 0, 170, .inl (fun i => nI (qt i))))] (fun (u : Nat → Nat) => u = va_up bl c0 (kqB qn ob tu)) (fun u => [(h0, .inr (8, moL ma (va_up (va_up iv 23 (nI qn)) 21 (nI ob)) co)), ((ma 21), .inl (k 0, 319840, .inl (fun i => nI (dgQ dg qt (c0 * 80) qn i)))), ((ma 22), .inl (k 0, 3998, .inl (fun i => nI ((va_up sz c0 qn) i)))), ((ma 23), .inl (k 2, 3998, .inl (fun i => nI (u i)))), ((ma 26), .inl (k 0, 170, .inl (fun i => nI (qt i))))]) 0 0 := by
  refine met_start (by decide) (Nat.le_of_ble_eq_true rfl) ?_
  intro p e s m below meth c C K hA hsz S ls hl
  generalize va_A [(h0, .inr (8, moL ma (va_up (va_up iv 23 (nI qn)) 21 (nI ob)) co)), ((ma 21), .inl (k 0, 319840, .inl (fun i => nI (dg i)))), ((ma 22), .inl (k 0, 3998, .inl (fun i => nI (sz i)))), ((ma 23), .inl (k 2, 3998, .inl (fun i => nI (bl i)))), ((ma 26), .inl (k 0, 170, .inl (fun i => nI (qt i))))] s0 = A at hA S ⊢
  have hx := C.1
  have hb := C.2.1
  have hl : lv_has ls 4 [(0, .ref h0), (1, .int (nI c0)), (2, .int (nI tu))] := hl
  have loop : ∀ d t, t + d = qn → ∀ (H : Heap) (locs : List Loc), Sw G A s.heap H locs [(h0, .inr (8, moL ma (va_up (va_up iv 23 (nI qn)) 21 (nI ob)) co)), ((ma 21), .inl (k 0, 319840, .inl (fun i => nI (dgQ dg qt (c0 * 80) t i)))), ((ma 22), .inl (k 0, 3998, .inl (fun i => nI (sz i)))), ((ma 23), .inl (k 2, 3998, .inl (fun i => nI (bl i)))), ((ma 26), .inl (k 0, 170, .inl (fun i => nI (qt i))))] → ∀ ls : Array Slot, lv_has ls 4 [(3, .int (nI t)), (0, .ref h0), (1, .int (nI c0)), (2, .int (nI tu))] → W p l e { frames := 0, cells := 0, slots := 0, locals := 0 } s m [Value.ref h0, Value.int (nI c0), Value.int (nI tu)].toArray below meth c H locs 0 0 (MQ below (va_Qv (fun (u : Nat → Nat) => u = va_up bl c0 (kqB qn ob tu)) (Po G k A (fun u => [(h0, .inr (8, moL ma (va_up (va_up iv 23 (nI qn)) 21 (nI ob)) co)), ((ma 21), .inl (k 0, 319840, .inl (fun i => nI (dgQ dg qt (c0 * 80) qn i)))), ((ma 22), .inl (k 0, 3998, .inl (fun i => nI ((va_up sz c0 qn) i)))), ((ma 23), .inl (k 2, 3998, .inl (fun i => nI (u i)))), ((ma 26), .inl (k 0, 170, .inl (fun i => nI (qt i))))])) A) [Value.ref h0, Value.int (nI c0), Value.int (nI tu)].toArray s 0 0 A) (F0 m 2 ls []) := by
    intro d
    induction d with
    | zero =>
      intro t ht H locs S ls hl
      obtain rfl : t = qn := by omega
      refine lv_iload_n hx hb d_Mo_keepQuotient_2 rfl (lv_at hl 0 rfl) ?_
      refine lv_aload_n hx hb d_Mo_keepQuotient_3 rfl (lv_at hl 1 rfl) ?_
      refine r_get C K S 0 rfl rfl clOk_Mo 52 (by decide) wf_Mo_313 (v := .int (nI t)) rfl d_Mo_keepQuotient_4 ?_
      refine lv_icmp_ge (tgt := 33) hx hb d_Mo_keepQuotient_7 (by decide) (fun _ => ?_) (fun hq => absurd (nI_le (Nat.le_refl _) (by omega)) hq)
      refine lv_aload_n hx hb d_Mo_keepQuotient_33 rfl (lv_at hl 1 rfl) ?_
      refine r_get C K S 0 rfl rfl clOk_Mo 42 (by decide) wf_Mo_86 (v := .ref (ma 22)) rfl d_Mo_keepQuotient_34 ?_
      refine lv_iload_n hx hb d_Mo_keepQuotient_37 rfl (lv_at hl 2 rfl) ?_
      refine lv_aload_n hx hb d_Mo_keepQuotient_38 rfl (lv_at hl 1 rfl) ?_
      refine r_get C K S 0 rfl rfl clOk_Mo 52 (by decide) wf_Mo_313 (v := .int (nI t)) rfl d_Mo_keepQuotient_39 ?_
      refine r_iast C K S 2 rfl (i := (nI c0)) (x := nI t) (vp_in_nI (by omega) (by decide)) (f' := fun i => nI (va_up sz c0 t i)) (ws' := [(h0, .inr (8, moL ma (va_up (va_up iv 23 (nI t)) 21 (nI ob)) co)), ((ma 21), .inl (k 0, 319840, .inl (fun i => nI (dgQ dg qt (c0 * 80) t i)))), ((ma 22), .inl (k 0, 3998, .inl (fun i => nI (va_up sz c0 t i)))), ((ma 23), .inl (k 2, 3998, .inl (fun i => nI (bl i)))), ((ma 26), .inl (k 0, 170, .inl (fun i => nI (qt i))))]) (upd_nI sz (by omega) _) rfl d_Mo_keepQuotient_42 (fun H locs S => ?_)
      refine lv_aload_n hx hb d_Mo_keepQuotient_43 rfl (lv_at hl 1 rfl) ?_
      refine r_get C K S 0 rfl rfl clOk_Mo 43 (by decide) wf_Mo_89 (v := .ref (ma 23)) rfl d_Mo_keepQuotient_44 ?_
      refine lv_iload_n hx hb d_Mo_keepQuotient_47 rfl (lv_at hl 2 rfl) ?_
      refine lv_aload_n hx hb d_Mo_keepQuotient_48 rfl (lv_at hl 1 rfl) ?_
      refine r_get C K S 0 rfl rfl clOk_Mo 52 (by decide) wf_Mo_313 (v := .int (nI t)) rfl d_Mo_keepQuotient_49 ?_
      refine lv_if_le (tgt := 67) hx hb d_Mo_keepQuotient_52 (by decide) (fun hc1 => ?_) (fun hc1 => ?_)
      · refine lv_iconst (v := 0) hx hb d_Mo_keepQuotient_67 (by decide) ?_
        refine r_zast C K S 3 rfl (i := (nI c0)) (x := 0) (vp_in_nI (by omega) (by decide)) (f' := fun i => nI (va_up bl c0 0 i)) (ws' := [(h0, .inr (8, moL ma (va_up (va_up iv 23 (nI t)) 21 (nI ob)) co)), ((ma 21), .inl (k 0, 319840, .inl (fun i => nI (dgQ dg qt (c0 * 80) t i)))), ((ma 22), .inl (k 0, 3998, .inl (fun i => nI (va_up sz c0 t i)))), ((ma 23), .inl (k 2, 3998, .inl (fun i => nI (va_up bl c0 0 i)))), ((ma 26), .inl (k 0, 170, .inl (fun i => nI (qt i))))]) (upd_Z bl (v := 0) (by omega) (by omega)) rfl d_Mo_keepQuotient_68 (fun H locs S => ?_)
        exact r_vret C K (va_up bl c0 0) (by have f0 : t = 0 := Nat.le_zero.mp ((nI_leI (a := t) (b := 0) (by omega) (by omega)).mp hc1); simp [kqB, f0]) (S.sub [0, 1, 2, 3, 4] (by decide) rfl) d_Mo_keepQuotient_69 (Nat.le_of_ble_eq_true rfl) (Nat.le_of_ble_eq_true rfl)
      · refine lv_aload_n hx hb d_Mo_keepQuotient_55 rfl (lv_at hl 1 rfl) ?_
        refine r_get C K S 0 rfl rfl clOk_Mo 50 (by decide) wf_Mo_289 (v := .int (nI ob)) rfl d_Mo_keepQuotient_56 ?_
        refine lv_iload_n hx hb d_Mo_keepQuotient_59 rfl (lv_at hl 3 rfl) ?_
        refine lv_icmp_eq (tgt := 67) hx hb d_Mo_keepQuotient_60 (by decide) (fun hc2 => ?_) (fun hc2 => ?_)
        · refine lv_iconst (v := 0) hx hb d_Mo_keepQuotient_67 (by decide) ?_
          refine r_zast C K S 3 rfl (i := (nI c0)) (x := 0) (vp_in_nI (by omega) (by decide)) (f' := fun i => nI (va_up bl c0 0 i)) (ws' := [(h0, .inr (8, moL ma (va_up (va_up iv 23 (nI t)) 21 (nI ob)) co)), ((ma 21), .inl (k 0, 319840, .inl (fun i => nI (dgQ dg qt (c0 * 80) t i)))), ((ma 22), .inl (k 0, 3998, .inl (fun i => nI (va_up sz c0 t i)))), ((ma 23), .inl (k 2, 3998, .inl (fun i => nI (va_up bl c0 0 i)))), ((ma 26), .inl (k 0, 170, .inl (fun i => nI (qt i))))]) (upd_Z bl (v := 0) (by omega) (by omega)) rfl d_Mo_keepQuotient_68 (fun H locs S => ?_)
          exact r_vret C K (va_up bl c0 0) (by have f0 : ¬ t = 0 := (fun e9 => hc1 (by rw [e9]; decide)); have f1 : ob = tu := (nI_eq (by omega) (by omega)).mp hc2; simp [kqB, f0, f1]) (S.sub [0, 1, 2, 3, 4] (by decide) rfl) d_Mo_keepQuotient_69 (Nat.le_of_ble_eq_true rfl) (Nat.le_of_ble_eq_true rfl)
        · refine lv_iconst (v := 1) hx hb d_Mo_keepQuotient_63 (by decide) ?_
          refine lv_goto (tgt := 68) hx hb d_Mo_keepQuotient_64 (by decide) ?_
          refine r_zast C K S 3 rfl (i := (nI c0)) (x := 1) (vp_in_nI (by omega) (by decide)) (f' := fun i => nI (va_up bl c0 1 i)) (ws' := [(h0, .inr (8, moL ma (va_up (va_up iv 23 (nI t)) 21 (nI ob)) co)), ((ma 21), .inl (k 0, 319840, .inl (fun i => nI (dgQ dg qt (c0 * 80) t i)))), ((ma 22), .inl (k 0, 3998, .inl (fun i => nI (va_up sz c0 t i)))), ((ma 23), .inl (k 2, 3998, .inl (fun i => nI (va_up bl c0 1 i)))), ((ma 26), .inl (k 0, 170, .inl (fun i => nI (qt i))))]) (upd_Z bl (v := 1) (by omega) (by omega)) rfl d_Mo_keepQuotient_68 (fun H locs S => ?_)
          exact r_vret C K (va_up bl c0 1) (by have f0 : ¬ t = 0 := (fun e9 => hc1 (by rw [e9]; decide)); have f1 : ¬ ob = tu := (fun e9 => hc2 (by rw [e9])); simp [kqB, f0, f1]) (S.sub [0, 1, 2, 3, 4] (by decide) rfl) d_Mo_keepQuotient_69 (Nat.le_of_ble_eq_true rfl) (Nat.le_of_ble_eq_true rfl)
    | succ d ih =>
      intro t ht H locs S ls hl
      refine lv_iload_n hx hb d_Mo_keepQuotient_2 rfl (lv_at hl 0 rfl) ?_
      refine lv_aload_n hx hb d_Mo_keepQuotient_3 rfl (lv_at hl 1 rfl) ?_
      refine r_get C K S 0 rfl rfl clOk_Mo 52 (by decide) wf_Mo_313 (v := .int (nI qn)) rfl d_Mo_keepQuotient_4 ?_
      refine lv_icmp_ge (tgt := 33) hx hb d_Mo_keepQuotient_7 (by decide) (fun hq => absurd hq (nI_ge (by omega) (by omega))) (fun _ => ?_)
      refine lv_aload_n hx hb d_Mo_keepQuotient_10 rfl (lv_at hl 1 rfl) ?_
      refine r_get C K S 0 rfl rfl clOk_Mo 41 (by decide) wf_Mo_83 (v := .ref (ma 21)) rfl d_Mo_keepQuotient_11 ?_
      refine lv_iload_n hx hb d_Mo_keepQuotient_14 rfl (lv_at hl 2 rfl) ?_
      refine lv_bipush (v := 80) hx hb d_Mo_keepQuotient_15 (by decide) ?_
      refine lv_imul hx hb d_Mo_keepQuotient_17 ?_
      rw [show nI c0 * (80 : Int32) = nI (c0 * 80) from pk_mul c0 80]
      refine lv_iload_n hx hb d_Mo_keepQuotient_18 rfl (lv_at hl 0 rfl) ?_
      refine lv_iadd hx hb d_Mo_keepQuotient_19 ?_
      rw [nI_add]
      refine lv_aload_n hx hb d_Mo_keepQuotient_20 rfl (lv_at hl 1 rfl) ?_
      refine r_get C K S 0 rfl rfl clOk_Mo 46 (by decide) wf_Mo_99 (v := .ref (ma 26)) rfl d_Mo_keepQuotient_21 ?_
      refine lv_iload_n hx hb d_Mo_keepQuotient_24 rfl (lv_at hl 0 rfl) ?_
      refine r_iald C K S 4 rfl (i := (nI t)) (vp_in_nI (by omega) (by decide)) (v := (nI (qt t))) (by rw [nI_clamp (by omega)]) d_Mo_keepQuotient_25 ?_
      refine r_iast C K S 1 rfl (i := nI (c0 * 80 + t)) (x := (nI (qt t))) (vp_in_nI (by omega) (by decide)) (f' := fun i => nI (dgQ dg qt (c0 * 80) (t + 1) i)) (ws' := [(h0, .inr (8, moL ma (va_up (va_up iv 23 (nI qn)) 21 (nI ob)) co)), ((ma 21), .inl (k 0, 319840, .inl (fun i => nI (dgQ dg qt (c0 * 80) (t + 1) i)))), ((ma 22), .inl (k 0, 3998, .inl (fun i => nI (sz i)))), ((ma 23), .inl (k 2, 3998, .inl (fun i => nI (bl i)))), ((ma 26), .inl (k 0, 170, .inl (fun i => nI (qt i))))]) (by rw [← dgQ_s]; exact upd_nI _ (by omega) _) rfl d_Mo_keepQuotient_26 (fun H locs S => ?_)
      refine lv_iinc (v := nI (t + 1)) (lv' := [(3, .int (nI (t + 1))), (0, .ref h0), (1, .int (nI c0)), (2, .int (nI tu))]) hx hb d_Mo_keepQuotient_27 hl (k := 0) rfl (nI_1 t) (by decide) rfl (fun ls hl => ?_)
      refine lv_goto (tgt := 2) hx hb d_Mo_keepQuotient_30 (by decide) ?_
      exact ih (t + 1) (by omega) _ _ S ls hl
  refine lv_iconst (v := 0) hx hb d_Mo_keepQuotient_0 (by decide) ?_
  refine lv_istore_n (lv' := [(3, .int 0), (0, .ref h0), (1, .int (nI c0)), (2, .int (nI tu))]) hx hb d_Mo_keepQuotient_1 rfl hl (by decide) rfl (fun ls hl => ?_)
  have S : Sw G A s.heap s.heap [] [(h0, .inr (8, moL ma (va_up (va_up iv 23 (nI qn)) 21 (nI ob)) co)), ((ma 21), .inl (k 0, 319840, .inl (fun i => nI (dgQ dg qt (c0 * 80) 0 i)))), ((ma 22), .inl (k 0, 3998, .inl (fun i => nI (sz i)))), ((ma 23), .inl (k 2, 3998, .inl (fun i => nI (bl i)))), ((ma 26), .inl (k 0, 170, .inl (fun i => nI (qt i))))] := by rw [dgQ_0]; exact S
  exact loop qn 0 (by omega) _ _ S ls hl
