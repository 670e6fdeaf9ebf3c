theorem nI_le_iff {a b : Nat} (ha : a < 2147483648) (hb : b < 2147483648) : nI a ≤ nI b ↔ a ≤ b := by
  rw [Int32.le_iff_toInt_le, show (nI a).toInt = a from Int32.toInt_ofNat_of_lt (by omega), show (nI b).toInt = b from Int32.toInt_ofNat_of_lt (by omega)]
  omega
theorem wdF_same {wd : Nat → Int32} {f n : Nat} {v : Int32} : ∀ i, va_up (wdF wd f) n v i = wdF (va_up wd (200 * f + n) v) f i := by
  intro i
  unfold wdF
  by_cases q : i = n
  · subst q; rw [va_up_self, va_up_self]
  · rw [va_up_ne _ _ q, va_up_ne _ _ (by omega)]
theorem wdF_other {wd : Nat → Int32} {f g n : Nat} {v : Int32} (hn : n < 200) (hne : g ≠ f) : ∀ i, i < 200 → wdF wd g i = wdF (va_up wd (200 * f + n) v) g i := by
  intro i hi
  unfold wdF
  rw [va_up_ne _ _ (by omega)]
theorem isF_lt {nf f : Nat} (h : f < nf) (hn : nf ≤ 4) : isF (nI nf) (nI f) = 1 := (isF_1 (nn_nlt (by omega)) (fun q => absurd ((nI_le_iff (by omega) (by omega)).mp q) (by omega))).symm
theorem d_PB_function_0 : decode c_PB_function 0 = .ok (.iload_n 1, 1) := by decide +kernel
theorem d_PB_function_1 : decode c_PB_function 1 = .ok (.ifCond .lt 8, 3) := by decide +kernel
theorem d_PB_function_4 : decode c_PB_function 4 = .ok (.iload_n 1, 1) := by decide +kernel
theorem d_PB_function_5 : decode c_PB_function 5 = .ok (.iconst 3, 1) := by decide +kernel
theorem d_PB_function_6 : decode c_PB_function 6 = .ok (.if_icmp .le 5, 3) := by decide +kernel
theorem d_PB_function_9 : decode c_PB_function 9 = .ok (.iconst (-1), 1) := by decide +kernel
theorem d_PB_function_10 : decode c_PB_function 10 = .ok (.ireturn, 1) := by decide +kernel
theorem d_PB_function_11 : decode c_PB_function 11 = .ok (.aload_n 0, 1) := by decide +kernel
theorem d_PB_function_12 : decode c_PB_function 12 = .ok (.getfield 57, 3) := by decide +kernel
theorem d_PB_function_15 : decode c_PB_function 15 = .ok (.iconst 4, 1) := by decide +kernel
theorem d_PB_function_16 : decode c_PB_function 16 = .ok (.if_icmp .ne 6, 3) := by decide +kernel
theorem d_PB_function_19 : decode c_PB_function 19 = .ok (.bipush (-3), 2) := by decide +kernel
theorem d_PB_function_21 : decode c_PB_function 21 = .ok (.ireturn, 1) := by decide +kernel
theorem d_PB_function_22 : decode c_PB_function 22 = .ok (.aload_n 0, 1) := by decide +kernel
theorem d_PB_function_23 : decode c_PB_function 23 = .ok (.getfield 11, 3) := by decide +kernel
theorem d_PB_function_26 : decode c_PB_function 26 = .ok (.aload_n 0, 1) := by decide +kernel
theorem d_PB_function_27 : decode c_PB_function 27 = .ok (.getfield 57, 3) := by decide +kernel
theorem d_PB_function_30 : decode c_PB_function 30 = .ok (.aaload, 1) := by decide +kernel
theorem d_PB_function_31 : decode c_PB_function 31 = .ok (.iload_n 1, 1) := by decide +kernel
theorem d_PB_function_32 : decode c_PB_function 32 = .ok (.putfield 60, 3) := by decide +kernel
theorem d_PB_function_35 : decode c_PB_function 35 = .ok (.aload_n 0, 1) := by decide +kernel
theorem d_PB_function_36 : decode c_PB_function 36 = .ok (.dup, 1) := by decide +kernel
theorem d_PB_function_37 : decode c_PB_function 37 = .ok (.getfield 57, 3) := by decide +kernel
theorem d_PB_function_40 : decode c_PB_function 40 = .ok (.iconst 1, 1) := by decide +kernel
theorem d_PB_function_41 : decode c_PB_function 41 = .ok (.iadd, 1) := by decide +kernel
theorem d_PB_function_42 : decode c_PB_function 42 = .ok (.putfield 57, 3) := by decide +kernel
theorem d_PB_function_45 : decode c_PB_function 45 = .ok (.aload_n 0, 1) := by decide +kernel
theorem d_PB_function_46 : decode c_PB_function 46 = .ok (.getfield 57, 3) := by decide +kernel
theorem d_PB_function_49 : decode c_PB_function 49 = .ok (.iconst 1, 1) := by decide +kernel
theorem d_PB_function_50 : decode c_PB_function 50 = .ok (.isub, 1) := by decide +kernel
theorem d_PB_function_51 : decode c_PB_function 51 = .ok (.ireturn, 1) := by decide +kernel
set_option maxRecDepth 100000 in
set_option maxHeartbeats 16000000 in
/-- function, a wrong number -/
theorem g_PB_function_bad (l : Launch) (G : va_G) (k : Nat → ClassId) (h0 : Nat) (s0 : Nat) (n9 : Int32) (ca : Nat) (cr : Nat) (cu : Nat) (cne : Nat) (cs : Nat) (cb : Nat) (nf : Nat) (it : Nat) (wp : Int32) (hn : n9 < 0 ∨ ¬ n9 ≤ 3) : CI l y_PB_function c_PB_function 2 .int { frames := 0, cells := 0, slots := 0, locals := 0 } [.ref h0, .int n9] G k s0 [(h0, .inr (0, [.ref ca, .ref cr, .ref cu, .ref cne, .ref cs, .ref cb, .int (nI nf), .int wp, .int (nI it)]))] (fun (r : Int32) (u : Unit) => r = -1 ∧ True) (fun u => [(h0, .inr (0, [.ref ca, .ref cr, .ref cu, .ref cne, .ref cs, .ref cb, .int (nI nf), .int wp, .int (nI it)]))]) 0 0 := by
  refine met_start (by decide) (Nat.le_of_ble_eq_true rfl) ?_
  intro p e s m below meth c C K hA hsz S ls hl
  generalize va_A [(h0, .inr (0, [.ref ca, .ref cr, .ref cu, .ref cne, .ref cs, .ref cb, .int (nI nf), .int wp, .int (nI it)]))] s0 = A at hA S ⊢
  have hx := C.1
  have hb := C.2.1
  have hl : lv_has ls 2 [(0, .ref h0), (1, .int n9)] := hl
  refine lv_iload_n hx hb d_PB_function_0 rfl (lv_at hl 1 rfl) ?_
  refine lv_if_lt (tgt := 9) hx hb d_PB_function_1 (by decide) (fun hc1 => ?_) (fun hc1 => ?_)
  · refine lv_iconst (v := (-1)) hx hb d_PB_function_9 (by decide) ?_
    exact r_iret C K rfl () ⟨rfl, trivial⟩ (S.sub [0] (by decide) rfl) d_PB_function_10 (Nat.le_of_ble_eq_true rfl) (Nat.le_of_ble_eq_true rfl)
  · refine lv_iload_n hx hb d_PB_function_4 rfl (lv_at hl 1 rfl) ?_
    refine lv_iconst (v := 3) hx hb d_PB_function_5 (by decide) ?_
    refine lv_icmp_le (tgt := 11) hx hb d_PB_function_6 (by decide) (fun hq => absurd hq (hn.resolve_left hc1)) (fun _ => ?_)
    refine lv_iconst (v := (-1)) hx hb d_PB_function_9 (by decide) ?_
    exact r_iret C K rfl () ⟨rfl, trivial⟩ (S.sub [0] (by decide) rfl) d_PB_function_10 (Nat.le_of_ble_eq_true rfl) (Nat.le_of_ble_eq_true rfl)
set_option maxRecDepth 100000 in
set_option maxHeartbeats 16000000 in
/-- function, no room -/
theorem g_PB_function_full (l : Launch) (G : va_G) (k : Nat → ClassId) (h0 : Nat) (s0 : Nat) (q9 : Nat) (ca : Nat) (cr : Nat) (cu : Nat) (cne : Nat) (cs : Nat) (cb : Nat) (nf : Nat) (it : Nat) (wp : Int32) (h3 : q9 ≤ 3) (hf : nf = 4) : CI l y_PB_function c_PB_function 2 .int { frames := 0, cells := 0, slots := 0, locals := 0 } [.ref h0, .int (nI q9)] G k s0 [(h0, .inr (0, [.ref ca, .ref cr, .ref cu, .ref cne, .ref cs, .ref cb, .int (nI nf), .int wp, .int (nI it)]))] (fun (r : Int32) (u : Unit) => r = -3 ∧ True) (fun u => [(h0, .inr (0, [.ref ca, .ref cr, .ref cu, .ref cne, .ref cs, .ref cb, .int (nI nf), .int wp, .int (nI it)]))]) 0 0 := by
  refine met_start (by decide) (Nat.le_of_ble_eq_true rfl) ?_
  intro p e s m below meth c C K hA hsz S ls hl
  generalize va_A [(h0, .inr (0, [.ref ca, .ref cr, .ref cu, .ref cne, .ref cs, .ref cb, .int (nI nf), .int wp, .int (nI it)]))] s0 = A at hA S ⊢
  have hx := C.1
  have hb := C.2.1
  have hl : lv_has ls 2 [(0, .ref h0), (1, .int (nI q9))] := hl
  refine lv_iload_n hx hb d_PB_function_0 rfl (lv_at hl 1 rfl) ?_
  refine z_if_lt (a := q9) (tgt := 9) hx hb d_PB_function_1 (by decide) (by omega) ?_
  refine lv_iload_n hx hb d_PB_function_4 rfl (lv_at hl 1 rfl) ?_
  refine lv_iconst (v := 3) hx hb d_PB_function_5 (by decide) ?_
  refine z_icmp_le (a := q9) (b := 3) (tgt := 11) hx hb d_PB_function_6 (by decide) (by omega) (by omega) (fun hc1 => ?_) (fun hc1 => False.elim (by omega))
  refine lv_aload_n hx hb d_PB_function_11 rfl (lv_at hl 0 rfl) ?_
  refine r_get C K S 0 rfl rfl clOk_PB 6 (by decide) wf_PB_57 (v := .int (nI nf)) rfl d_PB_function_12 ?_
  refine lv_iconst (v := 4) hx hb d_PB_function_15 (by decide) ?_
  refine z_icmp_ne (a := nf) (b := 4) (tgt := 22) hx hb d_PB_function_16 (by decide) (by omega) (by omega) (fun hc2 => False.elim (by omega)) (fun hc2 => ?_)
  refine lv_bipush (v := (-3)) hx hb d_PB_function_19 (by decide) ?_
  exact r_iret C K rfl () ⟨rfl, trivial⟩ (S.sub [0] (by decide) rfl) d_PB_function_21 (Nat.le_of_ble_eq_true rfl) (Nat.le_of_ble_eq_true rfl)
set_option maxRecDepth 100000 in
set_option maxHeartbeats 16000000 in
/-- function -/
theorem g_PB_function_ok (l : Launch) (G : va_G) (k : Nat → ClassId) (h0 : Nat) (s0 : Nat) (q9 : Nat) (ca : Nat) (cr : Nat) (cu : Nat) (cne : Nat) (cs : Nat) (cb : Nat) (nf : Nat) (it : Nat) (wp : Int32) (ad : Nat → Nat → Nat) (wd : Nat → Int32) (tk : Nat → Nat) (ct : Nat → Nat) (no : Nat → Nat) (ta : Nat → Nat → Nat → Nat) (h3 : q9 ≤ 3) (hf : nf < 4) : CI l y_PB_function c_PB_function 2 .int { frames := 0, cells := 0, slots := 0, locals := 0 } [.ref h0, .int (nI q9)] G k s0 [(h0, .inr (0, [.ref ca, .ref cr, .ref cu, .ref cne, .ref cs, .ref cb, .int (nI nf), .int wp, .int (nI it)])), (ca, .inl (k 3, 4, .inr (.inr (.inr (.inr (fun g => some (ad g 0))))))), ((ad 0 0), .inr (4, [.ref (ad 0 1), .ref (ad 0 2), .ref (ad 0 3), .ref (ad 0 4), .ref (ad 0 5), .ref (ad 0 6), .int (nI (tk 0)), .int (nI (ct 0)), .int (nI (no 0))])), ((ad 1 0), .inr (4, [.ref (ad 1 1), .ref (ad 1 2), .ref (ad 1 3), .ref (ad 1 4), .ref (ad 1 5), .ref (ad 1 6), .int (nI (tk 1)), .int (nI (ct 1)), .int (nI (no 1))])), ((ad 2 0), .inr (4, [.ref (ad 2 1), .ref (ad 2 2), .ref (ad 2 3), .ref (ad 2 4), .ref (ad 2 5), .ref (ad 2 6), .int (nI (tk 2)), .int (nI (ct 2)), .int (nI (no 2))])), ((ad 3 0), .inr (4, [.ref (ad 3 1), .ref (ad 3 2), .ref (ad 3 3), .ref (ad 3 4), .ref (ad 3 5), .ref (ad 3 6), .int (nI (tk 3)), .int (nI (ct 3)), .int (nI (no 3))]))] (fun (r : Int32) (u : Unit) => r = nI nf ∧ True) (fun u => [(h0, .inr (0, [.ref ca, .ref cr, .ref cu, .ref cne, .ref cs, .ref cb, .int (nI (nf + 1)), .int wp, .int (nI it)])), (ca, .inl (k 3, 4, .inr (.inr (.inr (.inr (fun g => some (ad g 0))))))), ((ad 0 0), .inr (4, [.ref (ad 0 1), .ref (ad 0 2), .ref (ad 0 3), .ref (ad 0 4), .ref (ad 0 5), .ref (ad 0 6), .int (nI ((va_up tk nf q9) 0)), .int (nI (ct 0)), .int (nI (no 0))])), ((ad 1 0), .inr (4, [.ref (ad 1 1), .ref (ad 1 2), .ref (ad 1 3), .ref (ad 1 4), .ref (ad 1 5), .ref (ad 1 6), .int (nI ((va_up tk nf q9) 1)), .int (nI (ct 1)), .int (nI (no 1))])), ((ad 2 0), .inr (4, [.ref (ad 2 1), .ref (ad 2 2), .ref (ad 2 3), .ref (ad 2 4), .ref (ad 2 5), .ref (ad 2 6), .int (nI ((va_up tk nf q9) 2)), .int (nI (ct 2)), .int (nI (no 2))])), ((ad 3 0), .inr (4, [.ref (ad 3 1), .ref (ad 3 2), .ref (ad 3 3), .ref (ad 3 4), .ref (ad 3 5), .ref (ad 3 6), .int (nI ((va_up tk nf q9) 3)), .int (nI (ct 3)), .int (nI (no 3))]))]) 0 0 := by
  refine met_start (by decide) (Nat.le_of_ble_eq_true rfl) ?_
  intro p e s m below meth c C K hA hsz S ls hl
  generalize va_A [(h0, .inr (0, [.ref ca, .ref cr, .ref cu, .ref cne, .ref cs, .ref cb, .int (nI nf), .int wp, .int (nI it)])), (ca, .inl (k 3, 4, .inr (.inr (.inr (.inr (fun g => some (ad g 0))))))), ((ad 0 0), .inr (4, [.ref (ad 0 1), .ref (ad 0 2), .ref (ad 0 3), .ref (ad 0 4), .ref (ad 0 5), .ref (ad 0 6), .int (nI (tk 0)), .int (nI (ct 0)), .int (nI (no 0))])), ((ad 1 0), .inr (4, [.ref (ad 1 1), .ref (ad 1 2), .ref (ad 1 3), .ref (ad 1 4), .ref (ad 1 5), .ref (ad 1 6), .int (nI (tk 1)), .int (nI (ct 1)), .int (nI (no 1))])), ((ad 2 0), .inr (4, [.ref (ad 2 1), .ref (ad 2 2), .ref (ad 2 3), .ref (ad 2 4), .ref (ad 2 5), .ref (ad 2 6), .int (nI (tk 2)), .int (nI (ct 2)), .int (nI (no 2))])), ((ad 3 0), .inr (4, [.ref (ad 3 1), .ref (ad 3 2), .ref (ad 3 3), .ref (ad 3 4), .ref (ad 3 5), .ref (ad 3 6), .int (nI (tk 3)), .int (nI (ct 3)), .int (nI (no 3))]))] s0 = A at hA S ⊢
  have hx := C.1
  have hb := C.2.1
  have hl : lv_has ls 2 [(0, .ref h0), (1, .int (nI q9))] := hl
  refine lv_iload_n hx hb d_PB_function_0 rfl (lv_at hl 1 rfl) ?_
  refine z_if_lt (a := q9) (tgt := 9) hx hb d_PB_function_1 (by decide) (by omega) ?_
  refine lv_iload_n hx hb d_PB_function_4 rfl (lv_at hl 1 rfl) ?_
  refine lv_iconst (v := 3) hx hb d_PB_function_5 (by decide) ?_
  refine z_icmp_le (a := q9) (b := 3) (tgt := 11) hx hb d_PB_function_6 (by decide) (by omega) (by omega) (fun hc1 => ?_) (fun hc1 => False.elim (by omega))
  refine lv_aload_n hx hb d_PB_function_11 rfl (lv_at hl 0 rfl) ?_
  refine r_get C K S 0 rfl rfl clOk_PB 6 (by decide) wf_PB_57 (v := .int (nI nf)) rfl d_PB_function_12 ?_
  refine lv_iconst (v := 4) hx hb d_PB_function_15 (by decide) ?_
  refine z_icmp_ne (a := nf) (b := 4) (tgt := 22) hx hb d_PB_function_16 (by decide) (by omega) (by omega) (fun hc2 => ?_) (fun hc2 => False.elim (by omega))
  refine lv_aload_n hx hb d_PB_function_22 rfl (lv_at hl 0 rfl) ?_
  refine r_get C K S 0 rfl rfl clOk_PB 0 (by decide) wf_PB_11 (v := .ref ca) rfl d_PB_function_23 ?_
  refine lv_aload_n hx hb d_PB_function_26 rfl (lv_at hl 0 rfl) ?_
  refine r_get C K S 0 rfl rfl clOk_PB 6 (by decide) wf_PB_57 (v := .int (nI nf)) rfl d_PB_function_27 ?_
  refine r_aald C K S 1 3 rfl rfl (i := nI nf) (show vp_in (nI nf) _ from vp_in_nI (n := nf) (by omega) (by decide)) (b := (ad nf 0)) (by rw [nI_clamp (by omega)]) d_PB_function_30 ?_
  obtain ⟨g1, g2, g3, hpm⟩ := pm4_of (f := nf) (by omega)
  have S : Sw G A s.heap _ _ [(h0, .inr (0, [.ref ca, .ref cr, .ref cu, .ref cne, .ref cs, .ref cb, .int (nI nf), .int wp, .int (nI it)])), (ca, .inl (k 3, 4, .inr (.inr (.inr (.inr (fun g => some (ad g 0))))))), ((ad nf 0), .inr (4, [.ref (ad nf 1), .ref (ad nf 2), .ref (ad nf 3), .ref (ad nf 4), .ref (ad nf 5), .ref (ad nf 6), .int (nI (tk nf)), .int (nI (ct nf)), .int (nI (no nf))])), ((ad g1 0), .inr (4, [.ref (ad g1 1), .ref (ad g1 2), .ref (ad g1 3), .ref (ad g1 4), .ref (ad g1 5), .ref (ad g1 6), .int (nI (tk g1)), .int (nI (ct g1)), .int (nI (no g1))])), ((ad g2 0), .inr (4, [.ref (ad g2 1), .ref (ad g2 2), .ref (ad g2 3), .ref (ad g2 4), .ref (ad g2 5), .ref (ad g2 6), .int (nI (tk g2)), .int (nI (ct g2)), .int (nI (no g2))])), ((ad g3 0), .inr (4, [.ref (ad g3 1), .ref (ad g3 2), .ref (ad g3 3), .ref (ad g3 4), .ref (ad g3 5), .ref (ad g3 6), .int (nI (tk g3)), .int (nI (ct g3)), .int (nI (no g3))]))] := S.sub4 (by
    rcases hpm with ⟨h1, h2, h3, h4⟩ | ⟨h1, h2, h3, h4⟩ | ⟨h1, h2, h3, h4⟩ | ⟨h1, h2, h3, h4⟩ <;> subst h1 <;> subst h2 <;> subst h3 <;> subst h4
    · exact ⟨[0, 1, 2, 3, 4, 5], by decide, rfl⟩
    · exact ⟨[0, 1, 3, 2, 4, 5], by decide, rfl⟩
    · exact ⟨[0, 1, 4, 2, 3, 5], by decide, rfl⟩
    · exact ⟨[0, 1, 5, 2, 3, 4], by decide, rfl⟩)
  refine lv_iload_n hx hb d_PB_function_31 rfl (lv_at hl 1 rfl) ?_
  refine r_putN C K S 2 rfl rfl clOk_Bo 6 (by decide) xf_PB_60 rfl (ty := .int) (v := .int (nI q9)) (by decide +kernel) rfl rfl (Nat.le_of_ble_eq_true rfl) (fs' := [.ref (ad nf 1), .ref (ad nf 2), .ref (ad nf 3), .ref (ad nf 4), .ref (ad nf 5), .ref (ad nf 6), .int (nI q9), .int (nI (ct nf)), .int (nI (no nf))]) (ws' := [(h0, .inr (0, [.ref ca, .ref cr, .ref cu, .ref cne, .ref cs, .ref cb, .int (nI nf), .int wp, .int (nI it)])), (ca, .inl (k 3, 4, .inr (.inr (.inr (.inr (fun g => some (ad g 0))))))), ((ad nf 0), .inr (4, [.ref (ad nf 1), .ref (ad nf 2), .ref (ad nf 3), .ref (ad nf 4), .ref (ad nf 5), .ref (ad nf 6), .int (nI q9), .int (nI (ct nf)), .int (nI (no nf))])), ((ad g1 0), .inr (4, [.ref (ad g1 1), .ref (ad g1 2), .ref (ad g1 3), .ref (ad g1 4), .ref (ad g1 5), .ref (ad g1 6), .int (nI (tk g1)), .int (nI (ct g1)), .int (nI (no g1))])), ((ad g2 0), .inr (4, [.ref (ad g2 1), .ref (ad g2 2), .ref (ad g2 3), .ref (ad g2 4), .ref (ad g2 5), .ref (ad g2 6), .int (nI (tk g2)), .int (nI (ct g2)), .int (nI (no g2))])), ((ad g3 0), .inr (4, [.ref (ad g3 1), .ref (ad g3 2), .ref (ad g3 3), .ref (ad g3 4), .ref (ad g3 5), .ref (ad g3 6), .int (nI (tk g3)), .int (nI (ct g3)), .int (nI (no g3))]))]) rfl rfl d_PB_function_32 (fun H locs S => ?_)
  refine lv_aload_n hx hb d_PB_function_35 rfl (lv_at hl 0 rfl) ?_
  refine lv_dup hx hb d_PB_function_36 rfl ?_
  refine r_get C K S 0 rfl rfl clOk_PB 6 (by decide) wf_PB_57 (v := .int (nI nf)) rfl d_PB_function_37 ?_
  refine lv_iconst (v := 1) hx hb d_PB_function_40 (by decide) ?_
  refine z_iadd (x := nI nf) (y := 1) (v := nI (nf + 1)) hx hb d_PB_function_41 (nI_add nf 1) ?_
  refine r_put C K S 0 rfl rfl clOk_PB 6 (by decide) wf_PB_57 rfl (ty := .int) (v := .int (nI (nf + 1))) (by decide +kernel) rfl rfl (Nat.le_of_ble_eq_true rfl) (fs' := [.ref ca, .ref cr, .ref cu, .ref cne, .ref cs, .ref cb, .int (nI (nf + 1)), .int wp, .int (nI it)]) (ws' := [(h0, .inr (0, [.ref ca, .ref cr, .ref cu, .ref cne, .ref cs, .ref cb, .int (nI (nf + 1)), .int wp, .int (nI it)])), (ca, .inl (k 3, 4, .inr (.inr (.inr (.inr (fun g => some (ad g 0))))))), ((ad nf 0), .inr (4, [.ref (ad nf 1), .ref (ad nf 2), .ref (ad nf 3), .ref (ad nf 4), .ref (ad nf 5), .ref (ad nf 6), .int (nI q9), .int (nI (ct nf)), .int (nI (no nf))])), ((ad g1 0), .inr (4, [.ref (ad g1 1), .ref (ad g1 2), .ref (ad g1 3), .ref (ad g1 4), .ref (ad g1 5), .ref (ad g1 6), .int (nI (tk g1)), .int (nI (ct g1)), .int (nI (no g1))])), ((ad g2 0), .inr (4, [.ref (ad g2 1), .ref (ad g2 2), .ref (ad g2 3), .ref (ad g2 4), .ref (ad g2 5), .ref (ad g2 6), .int (nI (tk g2)), .int (nI (ct g2)), .int (nI (no g2))])), ((ad g3 0), .inr (4, [.ref (ad g3 1), .ref (ad g3 2), .ref (ad g3 3), .ref (ad g3 4), .ref (ad g3 5), .ref (ad g3 6), .int (nI (tk g3)), .int (nI (ct g3)), .int (nI (no g3))]))]) rfl rfl d_PB_function_42 (fun H locs S => ?_)
  refine lv_aload_n hx hb d_PB_function_45 rfl (lv_at hl 0 rfl) ?_
  refine r_get C K S 0 rfl rfl clOk_PB 6 (by decide) wf_PB_57 (v := .int (nI (nf + 1))) rfl d_PB_function_46 ?_
  refine lv_iconst (v := 1) hx hb d_PB_function_49 (by decide) ?_
  refine z_isub (x := nI (nf + 1)) (y := 1) (v := nI (nf + 1 - 1)) hx hb d_PB_function_50 (pk_sub (a := (nf + 1)) (b := 1) (by omega)) ?_
  rw [show nf + 1 - 1 = nf from rfl]
  have S : Sw G A s.heap _ _ [(h0, .inr (0, [.ref ca, .ref cr, .ref cu, .ref cne, .ref cs, .ref cb, .int (nI (nf + 1)), .int wp, .int (nI it)])), (ca, .inl (k 3, 4, .inr (.inr (.inr (.inr (fun g => some (ad g 0))))))), ((ad 0 0), .inr (4, [.ref (ad 0 1), .ref (ad 0 2), .ref (ad 0 3), .ref (ad 0 4), .ref (ad 0 5), .ref (ad 0 6), .int (nI ((va_up tk nf q9) 0)), .int (nI (ct 0)), .int (nI (no 0))])), ((ad 1 0), .inr (4, [.ref (ad 1 1), .ref (ad 1 2), .ref (ad 1 3), .ref (ad 1 4), .ref (ad 1 5), .ref (ad 1 6), .int (nI ((va_up tk nf q9) 1)), .int (nI (ct 1)), .int (nI (no 1))])), ((ad 2 0), .inr (4, [.ref (ad 2 1), .ref (ad 2 2), .ref (ad 2 3), .ref (ad 2 4), .ref (ad 2 5), .ref (ad 2 6), .int (nI ((va_up tk nf q9) 2)), .int (nI (ct 2)), .int (nI (no 2))])), ((ad 3 0), .inr (4, [.ref (ad 3 1), .ref (ad 3 2), .ref (ad 3 3), .ref (ad 3 4), .ref (ad 3 5), .ref (ad 3 6), .int (nI ((va_up tk nf q9) 3)), .int (nI (ct 3)), .int (nI (no 3))]))] := S.sub4 (by
    rcases hpm with ⟨h1, h2, h3, h4⟩ | ⟨h1, h2, h3, h4⟩ | ⟨h1, h2, h3, h4⟩ | ⟨h1, h2, h3, h4⟩ <;> subst h1 <;> subst h2 <;> subst h3 <;> subst h4
    · exact ⟨[0, 1, 2, 3, 4, 5], by decide, rfl⟩
    · exact ⟨[0, 1, 3, 2, 4, 5], by decide, rfl⟩
    · exact ⟨[0, 1, 3, 4, 2, 5], by decide, rfl⟩
    · exact ⟨[0, 1, 3, 4, 5, 2], by decide, rfl⟩)
  exact r_iret C K rfl () ⟨rfl, trivial⟩ (S.sub [0, 1, 2, 3, 4, 5] (by decide) rfl) d_PB_function_51 (Nat.le_of_ble_eq_true rfl) (Nat.le_of_ble_eq_true rfl)
theorem d_PB_word_0 : decode c_PB_word 0 = .ok (.aload_n 0, 1) := by decide +kernel
theorem d_PB_word_1 : decode c_PB_word 1 = .ok (.iload_n 1, 1) := by decide +kernel
theorem d_PB_word_2 : decode c_PB_word 2 = .ok (.invokevirtual 63, 3) := by decide +kernel
theorem d_PB_word_5 : decode c_PB_word 5 = .ok (.ifCond .ne 5, 3) := by decide +kernel
theorem d_PB_word_8 : decode c_PB_word 8 = .ok (.iconst (-1), 1) := by decide +kernel
theorem d_PB_word_9 : decode c_PB_word 9 = .ok (.ireturn, 1) := by decide +kernel
theorem d_PB_word_10 : decode c_PB_word 10 = .ok (.aload_n 0, 1) := by decide +kernel
theorem d_PB_word_11 : decode c_PB_word 11 = .ok (.getfield 11, 3) := by decide +kernel
theorem d_PB_word_14 : decode c_PB_word 14 = .ok (.iload_n 1, 1) := by decide +kernel
theorem d_PB_word_15 : decode c_PB_word 15 = .ok (.aaload, 1) := by decide +kernel
theorem d_PB_word_16 : decode c_PB_word 16 = .ok (.astore_n 3, 1) := by decide +kernel
theorem d_PB_word_17 : decode c_PB_word 17 = .ok (.aload_n 3, 1) := by decide +kernel
theorem d_PB_word_18 : decode c_PB_word 18 = .ok (.getfield 67, 3) := by decide +kernel
theorem d_PB_word_21 : decode c_PB_word 21 = .ok (.sipush 200, 3) := by decide +kernel
theorem d_PB_word_24 : decode c_PB_word 24 = .ok (.if_icmp .ne 6, 3) := by decide +kernel
theorem d_PB_word_27 : decode c_PB_word 27 = .ok (.bipush (-3), 2) := by decide +kernel
theorem d_PB_word_29 : decode c_PB_word 29 = .ok (.ireturn, 1) := by decide +kernel
theorem d_PB_word_30 : decode c_PB_word 30 = .ok (.aload_n 3, 1) := by decide +kernel
theorem d_PB_word_31 : decode c_PB_word 31 = .ok (.getfield 70, 3) := by decide +kernel
theorem d_PB_word_34 : decode c_PB_word 34 = .ok (.aload_n 3, 1) := by decide +kernel
theorem d_PB_word_35 : decode c_PB_word 35 = .ok (.getfield 67, 3) := by decide +kernel
theorem d_PB_word_38 : decode c_PB_word 38 = .ok (.iload_n 2, 1) := by decide +kernel
theorem d_PB_word_39 : decode c_PB_word 39 = .ok (.iastore, 1) := by decide +kernel
theorem d_PB_word_40 : decode c_PB_word 40 = .ok (.aload_n 3, 1) := by decide +kernel
theorem d_PB_word_41 : decode c_PB_word 41 = .ok (.dup, 1) := by decide +kernel
theorem d_PB_word_42 : decode c_PB_word 42 = .ok (.getfield 67, 3) := by decide +kernel
theorem d_PB_word_45 : decode c_PB_word 45 = .ok (.iconst 1, 1) := by decide +kernel
theorem d_PB_word_46 : decode c_PB_word 46 = .ok (.iadd, 1) := by decide +kernel
theorem d_PB_word_47 : decode c_PB_word 47 = .ok (.putfield 67, 3) := by decide +kernel
theorem d_PB_word_50 : decode c_PB_word 50 = .ok (.aload_n 3, 1) := by decide +kernel
theorem d_PB_word_51 : decode c_PB_word 51 = .ok (.getfield 67, 3) := by decide +kernel
theorem d_PB_word_54 : decode c_PB_word 54 = .ok (.ireturn, 1) := by decide +kernel
set_option maxRecDepth 100000 in
set_option maxHeartbeats 16000000 in
/-- word, no function -/
theorem g_PB_word_bad (l : Launch) (G : va_G) (k : Nat → ClassId) (h0 : Nat) (s0 : Nat) (fi : Int32) (v9 : Int32) (ca : Nat) (cr : Nat) (cu : Nat) (cne : Nat) (cs : Nat) (cb : Nat) (nf : Nat) (it : Nat) (wp : Int32) (hf : isF (nI nf) fi = 0) : CI l y_PB_word c_PB_word 4 .int { frames := 1, cells := 0, slots := 0, locals := 21 } [.ref h0, .int fi, .int v9] G k s0 [(h0, .inr (0, [.ref ca, .ref cr, .ref cu, .ref cne, .ref cs, .ref cb, .int (nI nf), .int wp, .int (nI it)]))] (fun (r : Int32) (u : Unit) => r = -1 ∧ True) (fun u => [(h0, .inr (0, [.ref ca, .ref cr, .ref cu, .ref cne, .ref cs, .ref cb, .int (nI nf), .int wp, .int (nI it)]))]) 0 0 := by
  refine met_start (by decide) (Nat.le_of_ble_eq_true rfl) ?_
  intro p e s m below meth c C K hA hsz S ls hl
  generalize va_A [(h0, .inr (0, [.ref ca, .ref cr, .ref cu, .ref cne, .ref cs, .ref cb, .int (nI nf), .int wp, .int (nI it)]))] s0 = A at hA S ⊢
  have hx := C.1
  have hb := C.2.1
  have hl : lv_has ls 4 [(0, .ref h0), (1, .int fi), (2, .int v9)] := hl
  refine lv_aload_n hx hb d_PB_word_0 rfl (lv_at hl 0 rfl) ?_
  refine lv_iload_n hx hb d_PB_word_1 rfl (lv_at hl 1 rfl) ?_
  refine r_backi (wi := [(h0, .inr (0, [.ref ca, .ref cr, .ref cu, .ref cne, .ref cs, .ref cb, .int (nI nf), .int wp, .int (nI it)]))]) (wr := []) S hA [0] [] rfl rfl (by decide) (by decide) (va_runV (As := [.int fi]) (rest := []) ⟨hx, hb, C.2.2.1, C.2.2.2.1, C.2.2.2.2.1⟩ (g_PB_isFunction l G k h0 _ fi ca cr cu cne cs cb nf it wp) (k_virt (n := 1) C wc_PB_isFunction rfl rfl wz_PB wm_PB_63 wn_PB_isFunction ws_PB_isFunction (by decide +kernel) ⟨(Nat.le_of_ble_eq_true rfl), (Nat.le_of_ble_eq_true rfl)⟩) (pr_nowV K S [0] (by decide) rfl 0 rfl rfl) rfl rfl hl.1 rfl (lv_room (Nat.le_of_ble_eq_true rfl)) d_PB_word_2 ⟨(Nat.le_of_ble_eq_true rfl), (Nat.le_of_ble_eq_true rfl)⟩) (fun r3 u1 H locs hw2 S => ?_)
  have S : Sw G A s.heap _ _ [(h0, .inr (0, [.ref ca, .ref cr, .ref cu, .ref cne, .ref cs, .ref cb, .int (nI nf), .int wp, .int (nI it)]))] := S
  obtain ⟨hw20, hp4⟩ := hw2
  obtain rfl : r3 = isF (nI nf) fi := hw20
  rw [hf]
  refine lv_if_ne (tgt := 10) hx hb d_PB_word_5 (by decide) (fun hq => absurd (by decide) hq) (fun _ => ?_)
  refine lv_iconst (v := (-1)) hx hb d_PB_word_8 (by decide) ?_
  exact r_iret C K rfl () ⟨rfl, trivial⟩ (S.sub [0] (by decide) rfl) d_PB_word_9 (Nat.le_of_ble_eq_true rfl) (Nat.le_of_ble_eq_true rfl)
set_option maxRecDepth 100000 in
set_option maxHeartbeats 16000000 in
/-- word, no room -/
theorem g_PB_word_full (l : Launch) (G : va_G) (k : Nat → ClassId) (h0 : Nat) (s0 : Nat) (f9 : Nat) (v9 : Int32) (ca : Nat) (cr : Nat) (cu : Nat) (cne : Nat) (cs : Nat) (cb : Nat) (nf : Nat) (it : Nat) (wp : Int32) (ad : Nat → Nat → Nat) (wd : Nat → Int32) (tk : Nat → Nat) (ct : Nat → Nat) (no : Nat → Nat) (ta : Nat → Nat → Nat → Nat) (hf : f9 < nf) (hnf : nf ≤ 4) (hc : ct f9 = 200) : CI l y_PB_word c_PB_word 4 .int { frames := 1, cells := 0, slots := 0, locals := 21 } [.ref h0, .int (nI f9), .int v9] G k s0 [(h0, .inr (0, [.ref ca, .ref cr, .ref cu, .ref cne, .ref cs, .ref cb, .int (nI nf), .int wp, .int (nI it)])), (ca, .inl (k 3, 4, .inr (.inr (.inr (.inr (fun g => some (ad g 0))))))), ((ad 0 0), .inr (4, [.ref (ad 0 1), .ref (ad 0 2), .ref (ad 0 3), .ref (ad 0 4), .ref (ad 0 5), .ref (ad 0 6), .int (nI (tk 0)), .int (nI (ct 0)), .int (nI (no 0))])), ((ad 1 0), .inr (4, [.ref (ad 1 1), .ref (ad 1 2), .ref (ad 1 3), .ref (ad 1 4), .ref (ad 1 5), .ref (ad 1 6), .int (nI (tk 1)), .int (nI (ct 1)), .int (nI (no 1))])), ((ad 2 0), .inr (4, [.ref (ad 2 1), .ref (ad 2 2), .ref (ad 2 3), .ref (ad 2 4), .ref (ad 2 5), .ref (ad 2 6), .int (nI (tk 2)), .int (nI (ct 2)), .int (nI (no 2))])), ((ad 3 0), .inr (4, [.ref (ad 3 1), .ref (ad 3 2), .ref (ad 3 3), .ref (ad 3 4), .ref (ad 3 5), .ref (ad 3 6), .int (nI (tk 3)), .int (nI (ct 3)), .int (nI (no 3))]))] (fun (r : Int32) (u : Unit) => r = -3 ∧ True) (fun u => [(h0, .inr (0, [.ref ca, .ref cr, .ref cu, .ref cne, .ref cs, .ref cb, .int (nI nf), .int wp, .int (nI it)])), (ca, .inl (k 3, 4, .inr (.inr (.inr (.inr (fun g => some (ad g 0))))))), ((ad 0 0), .inr (4, [.ref (ad 0 1), .ref (ad 0 2), .ref (ad 0 3), .ref (ad 0 4), .ref (ad 0 5), .ref (ad 0 6), .int (nI (tk 0)), .int (nI (ct 0)), .int (nI (no 0))])), ((ad 1 0), .inr (4, [.ref (ad 1 1), .ref (ad 1 2), .ref (ad 1 3), .ref (ad 1 4), .ref (ad 1 5), .ref (ad 1 6), .int (nI (tk 1)), .int (nI (ct 1)), .int (nI (no 1))])), ((ad 2 0), .inr (4, [.ref (ad 2 1), .ref (ad 2 2), .ref (ad 2 3), .ref (ad 2 4), .ref (ad 2 5), .ref (ad 2 6), .int (nI (tk 2)), .int (nI (ct 2)), .int (nI (no 2))])), ((ad 3 0), .inr (4, [.ref (ad 3 1), .ref (ad 3 2), .ref (ad 3 3), .ref (ad 3 4), .ref (ad 3 5), .ref (ad 3 6), .int (nI (tk 3)), .int (nI (ct 3)), .int (nI (no 3))]))]) 0 0 := by
  refine met_start (by decide) (Nat.le_of_ble_eq_true rfl) ?_
  intro p e s m below meth c C K hA hsz S ls hl
  generalize va_A [(h0, .inr (0, [.ref ca, .ref cr, .ref cu, .ref cne, .ref cs, .ref cb, .int (nI nf), .int wp, .int (nI it)])), (ca, .inl (k 3, 4, .inr (.inr (.inr (.inr (fun g => some (ad g 0))))))), ((ad 0 0), .inr (4, [.ref (ad 0 1), .ref (ad 0 2), .ref (ad 0 3), .ref (ad 0 4), .ref (ad 0 5), .ref (ad 0 6), .int (nI (tk 0)), .int (nI (ct 0)), .int (nI (no 0))])), ((ad 1 0), .inr (4, [.ref (ad 1 1), .ref (ad 1 2), .ref (ad 1 3), .ref (ad 1 4), .ref (ad 1 5), .ref (ad 1 6), .int (nI (tk 1)), .int (nI (ct 1)), .int (nI (no 1))])), ((ad 2 0), .inr (4, [.ref (ad 2 1), .ref (ad 2 2), .ref (ad 2 3), .ref (ad 2 4), .ref (ad 2 5), .ref (ad 2 6), .int (nI (tk 2)), .int (nI (ct 2)), .int (nI (no 2))])), ((ad 3 0), .inr (4, [.ref (ad 3 1), .ref (ad 3 2), .ref (ad 3 3), .ref (ad 3 4), .ref (ad 3 5), .ref (ad 3 6), .int (nI (tk 3)), .int (nI (ct 3)), .int (nI (no 3))]))] s0 = A at hA S ⊢
  have hx := C.1
  have hb := C.2.1
  have hl : lv_has ls 4 [(0, .ref h0), (1, .int (nI f9)), (2, .int v9)] := hl
  refine lv_aload_n hx hb d_PB_word_0 rfl (lv_at hl 0 rfl) ?_
  refine lv_iload_n hx hb d_PB_word_1 rfl (lv_at hl 1 rfl) ?_
  refine r_backi (wi := [(h0, .inr (0, [.ref ca, .ref cr, .ref cu, .ref cne, .ref cs, .ref cb, .int (nI nf), .int wp, .int (nI it)]))]) (wr := [(ca, .inl (k 3, 4, .inr (.inr (.inr (.inr (fun g => some (ad g 0))))))), ((ad 0 0), .inr (4, [.ref (ad 0 1), .ref (ad 0 2), .ref (ad 0 3), .ref (ad 0 4), .ref (ad 0 5), .ref (ad 0 6), .int (nI (tk 0)), .int (nI (ct 0)), .int (nI (no 0))])), ((ad 1 0), .inr (4, [.ref (ad 1 1), .ref (ad 1 2), .ref (ad 1 3), .ref (ad 1 4), .ref (ad 1 5), .ref (ad 1 6), .int (nI (tk 1)), .int (nI (ct 1)), .int (nI (no 1))])), ((ad 2 0), .inr (4, [.ref (ad 2 1), .ref (ad 2 2), .ref (ad 2 3), .ref (ad 2 4), .ref (ad 2 5), .ref (ad 2 6), .int (nI (tk 2)), .int (nI (ct 2)), .int (nI (no 2))])), ((ad 3 0), .inr (4, [.ref (ad 3 1), .ref (ad 3 2), .ref (ad 3 3), .ref (ad 3 4), .ref (ad 3 5), .ref (ad 3 6), .int (nI (tk 3)), .int (nI (ct 3)), .int (nI (no 3))]))]) S hA [0] [1, 2, 3, 4, 5] rfl rfl (by decide) (by decide) (va_runV (As := [.int (nI f9)]) (rest := []) ⟨hx, hb, C.2.2.1, C.2.2.2.1, C.2.2.2.2.1⟩ (g_PB_isFunction l G k h0 _ (nI f9) ca cr cu cne cs cb nf it wp) (k_virt (n := 1) C wc_PB_isFunction rfl rfl wz_PB wm_PB_63 wn_PB_isFunction ws_PB_isFunction (by decide +kernel) ⟨(Nat.le_of_ble_eq_true rfl), (Nat.le_of_ble_eq_true rfl)⟩) (pr_nowV K S [0] (by decide) rfl 0 rfl rfl) rfl rfl hl.1 rfl (lv_room (Nat.le_of_ble_eq_true rfl)) d_PB_word_2 ⟨(Nat.le_of_ble_eq_true rfl), (Nat.le_of_ble_eq_true rfl)⟩) (fun r3 u1 H locs hw2 S => ?_)
  have S : Sw G A s.heap _ _ [(ca, .inl (k 3, 4, .inr (.inr (.inr (.inr (fun g => some (ad g 0))))))), ((ad 0 0), .inr (4, [.ref (ad 0 1), .ref (ad 0 2), .ref (ad 0 3), .ref (ad 0 4), .ref (ad 0 5), .ref (ad 0 6), .int (nI (tk 0)), .int (nI (ct 0)), .int (nI (no 0))])), ((ad 1 0), .inr (4, [.ref (ad 1 1), .ref (ad 1 2), .ref (ad 1 3), .ref (ad 1 4), .ref (ad 1 5), .ref (ad 1 6), .int (nI (tk 1)), .int (nI (ct 1)), .int (nI (no 1))])), ((ad 2 0), .inr (4, [.ref (ad 2 1), .ref (ad 2 2), .ref (ad 2 3), .ref (ad 2 4), .ref (ad 2 5), .ref (ad 2 6), .int (nI (tk 2)), .int (nI (ct 2)), .int (nI (no 2))])), ((ad 3 0), .inr (4, [.ref (ad 3 1), .ref (ad 3 2), .ref (ad 3 3), .ref (ad 3 4), .ref (ad 3 5), .ref (ad 3 6), .int (nI (tk 3)), .int (nI (ct 3)), .int (nI (no 3))])), (h0, .inr (0, [.ref ca, .ref cr, .ref cu, .ref cne, .ref cs, .ref cb, .int (nI nf), .int wp, .int (nI it)]))] := S
  obtain ⟨hw20, hp4⟩ := hw2
  obtain rfl : r3 = isF (nI nf) (nI f9) := hw20
  rw [isF_lt hf hnf]
  refine lv_if_ne (tgt := 10) hx hb d_PB_word_5 (by decide) (fun _ => ?_) (fun hq => absurd hq (by decide))
  refine lv_aload_n hx hb d_PB_word_10 rfl (lv_at hl 0 rfl) ?_
  refine r_get C K S 5 rfl rfl clOk_PB 0 (by decide) wf_PB_11 (v := .ref ca) rfl d_PB_word_11 ?_
  refine lv_iload_n hx hb d_PB_word_14 rfl (lv_at hl 1 rfl) ?_
  refine r_aald C K S 0 3 rfl rfl (i := nI f9) (show vp_in (nI f9) _ from vp_in_nI (n := f9) (by omega) (by decide)) (b := (ad f9 0)) (by rw [nI_clamp (by omega)]) d_PB_word_15 ?_
  obtain ⟨g1, g2, g3, hpm⟩ := pm4_of (f := f9) (by omega)
  have S : Sw G A s.heap _ _ [(ca, .inl (k 3, 4, .inr (.inr (.inr (.inr (fun g => some (ad g 0))))))), (h0, .inr (0, [.ref ca, .ref cr, .ref cu, .ref cne, .ref cs, .ref cb, .int (nI nf), .int wp, .int (nI it)])), ((ad f9 0), .inr (4, [.ref (ad f9 1), .ref (ad f9 2), .ref (ad f9 3), .ref (ad f9 4), .ref (ad f9 5), .ref (ad f9 6), .int (nI (tk f9)), .int (nI (ct f9)), .int (nI (no f9))])), ((ad g1 0), .inr (4, [.ref (ad g1 1), .ref (ad g1 2), .ref (ad g1 3), .ref (ad g1 4), .ref (ad g1 5), .ref (ad g1 6), .int (nI (tk g1)), .int (nI (ct g1)), .int (nI (no g1))])), ((ad g2 0), .inr (4, [.ref (ad g2 1), .ref (ad g2 2), .ref (ad g2 3), .ref (ad g2 4), .ref (ad g2 5), .ref (ad g2 6), .int (nI (tk g2)), .int (nI (ct g2)), .int (nI (no g2))])), ((ad g3 0), .inr (4, [.ref (ad g3 1), .ref (ad g3 2), .ref (ad g3 3), .ref (ad g3 4), .ref (ad g3 5), .ref (ad g3 6), .int (nI (tk g3)), .int (nI (ct g3)), .int (nI (no g3))]))] := S.sub4 (by
    rcases hpm with ⟨h1, h2, h3, h4⟩ | ⟨h1, h2, h3, h4⟩ | ⟨h1, h2, h3, h4⟩ | ⟨h1, h2, h3, h4⟩ <;> subst h1 <;> subst h2 <;> subst h3 <;> subst h4
    · exact ⟨[0, 5, 1, 2, 3, 4], by decide, rfl⟩
    · exact ⟨[0, 5, 2, 1, 3, 4], by decide, rfl⟩
    · exact ⟨[0, 5, 3, 1, 2, 4], by decide, rfl⟩
    · exact ⟨[0, 5, 4, 1, 2, 3], by decide, rfl⟩)
  refine lv_astore_n (lv' := [(3, .ref (ad f9 0)), (0, .ref h0), (1, .int (nI f9)), (2, .int v9)]) hx hb d_PB_word_16 rfl hl (by decide) rfl (fun ls hl => ?_)
  refine lv_aload_n hx hb d_PB_word_17 rfl (lv_at hl 0 rfl) ?_
  refine r_getN C K S 2 rfl rfl clOk_Bo 7 (by decide) xf_PB_67 (v := .int (nI (ct f9))) rfl d_PB_word_18 ?_
  refine lv_sipush (v := 200) hx hb d_PB_word_21 (by decide) ?_
  refine z_icmp_ne (a := (ct f9)) (b := 200) (tgt := 30) hx hb d_PB_word_24 (by decide) (by omega) (by omega) (fun hc5 => False.elim (by omega)) (fun hc5 => ?_)
  refine lv_bipush (v := (-3)) hx hb d_PB_word_27 (by decide) ?_
  have S : Sw G A s.heap _ _ [(h0, .inr (0, [.ref ca, .ref cr, .ref cu, .ref cne, .ref cs, .ref cb, .int (nI nf), .int wp, .int (nI it)])), (ca, .inl (k 3, 4, .inr (.inr (.inr (.inr (fun g => some (ad g 0))))))), ((ad 0 0), .inr (4, [.ref (ad 0 1), .ref (ad 0 2), .ref (ad 0 3), .ref (ad 0 4), .ref (ad 0 5), .ref (ad 0 6), .int (nI (tk 0)), .int (nI (ct 0)), .int (nI (no 0))])), ((ad 1 0), .inr (4, [.ref (ad 1 1), .ref (ad 1 2), .ref (ad 1 3), .ref (ad 1 4), .ref (ad 1 5), .ref (ad 1 6), .int (nI (tk 1)), .int (nI (ct 1)), .int (nI (no 1))])), ((ad 2 0), .inr (4, [.ref (ad 2 1), .ref (ad 2 2), .ref (ad 2 3), .ref (ad 2 4), .ref (ad 2 5), .ref (ad 2 6), .int (nI (tk 2)), .int (nI (ct 2)), .int (nI (no 2))])), ((ad 3 0), .inr (4, [.ref (ad 3 1), .ref (ad 3 2), .ref (ad 3 3), .ref (ad 3 4), .ref (ad 3 5), .ref (ad 3 6), .int (nI (tk 3)), .int (nI (ct 3)), .int (nI (no 3))]))] := S.sub4 (by
    rcases hpm with ⟨h1, h2, h3, h4⟩ | ⟨h1, h2, h3, h4⟩ | ⟨h1, h2, h3, h4⟩ | ⟨h1, h2, h3, h4⟩ <;> subst h1 <;> subst h2 <;> subst h3 <;> subst h4
    · exact ⟨[1, 0, 2, 3, 4, 5], by decide, rfl⟩
    · exact ⟨[1, 0, 3, 2, 4, 5], by decide, rfl⟩
    · exact ⟨[1, 0, 3, 4, 2, 5], by decide, rfl⟩
    · exact ⟨[1, 0, 3, 4, 5, 2], by decide, rfl⟩)
  exact r_iret C K rfl () ⟨rfl, trivial⟩ (S.sub [0, 1, 2, 3, 4, 5] (by decide) rfl) d_PB_word_29 (Nat.le_of_ble_eq_true rfl) (Nat.le_of_ble_eq_true rfl)
set_option maxRecDepth 100000 in
set_option maxHeartbeats 16000000 in
/-- word -/
theorem g_PB_word_ok (l : Launch) (G : va_G) (k : Nat → ClassId) (h0 : Nat) (s0 : Nat) (f9 : Nat) (v9 : Int32) (ca : Nat) (cr : Nat) (cu : Nat) (cne : Nat) (cs : Nat) (cb : Nat) (nf : Nat) (it : Nat) (wp : Int32) (ad : Nat → Nat → Nat) (wd : Nat → Int32) (tk : Nat → Nat) (ct : Nat → Nat) (no : Nat → Nat) (ta : Nat → Nat → Nat → Nat) (hf : f9 < nf) (hnf : nf ≤ 4) (hc : ct f9 < 200) : CI l y_PB_word c_PB_word 4 .int { frames := 1, cells := 0, slots := 0, locals := 21 } [.ref h0, .int (nI f9), .int v9] G k s0 [(h0, .inr (0, [.ref ca, .ref cr, .ref cu, .ref cne, .ref cs, .ref cb, .int (nI nf), .int wp, .int (nI it)])), (ca, .inl (k 3, 4, .inr (.inr (.inr (.inr (fun g => some (ad g 0))))))), ((ad 0 0), .inr (4, [.ref (ad 0 1), .ref (ad 0 2), .ref (ad 0 3), .ref (ad 0 4), .ref (ad 0 5), .ref (ad 0 6), .int (nI (tk 0)), .int (nI (ct 0)), .int (nI (no 0))])), ((ad 0 1), .inl (k 0, 200, .inl (wdF wd 0))), ((ad 1 0), .inr (4, [.ref (ad 1 1), .ref (ad 1 2), .ref (ad 1 3), .ref (ad 1 4), .ref (ad 1 5), .ref (ad 1 6), .int (nI (tk 1)), .int (nI (ct 1)), .int (nI (no 1))])), ((ad 1 1), .inl (k 0, 200, .inl (wdF wd 1))), ((ad 2 0), .inr (4, [.ref (ad 2 1), .ref (ad 2 2), .ref (ad 2 3), .ref (ad 2 4), .ref (ad 2 5), .ref (ad 2 6), .int (nI (tk 2)), .int (nI (ct 2)), .int (nI (no 2))])), ((ad 2 1), .inl (k 0, 200, .inl (wdF wd 2))), ((ad 3 0), .inr (4, [.ref (ad 3 1), .ref (ad 3 2), .ref (ad 3 3), .ref (ad 3 4), .ref (ad 3 5), .ref (ad 3 6), .int (nI (tk 3)), .int (nI (ct 3)), .int (nI (no 3))])), ((ad 3 1), .inl (k 0, 200, .inl (wdF wd 3)))] (fun (r : Int32) (u : Unit) => r = nI (ct f9 + 1) ∧ True) (fun u => [(h0, .inr (0, [.ref ca, .ref cr, .ref cu, .ref cne, .ref cs, .ref cb, .int (nI nf), .int wp, .int (nI it)])), (ca, .inl (k 3, 4, .inr (.inr (.inr (.inr (fun g => some (ad g 0))))))), ((ad 0 0), .inr (4, [.ref (ad 0 1), .ref (ad 0 2), .ref (ad 0 3), .ref (ad 0 4), .ref (ad 0 5), .ref (ad 0 6), .int (nI (tk 0)), .int (nI ((va_up ct f9 (ct f9 + 1)) 0)), .int (nI (no 0))])), ((ad 0 1), .inl (k 0, 200, .inl (wdF (va_up wd (200 * f9 + ct f9) v9) 0))), ((ad 1 0), .inr (4, [.ref (ad 1 1), .ref (ad 1 2), .ref (ad 1 3), .ref (ad 1 4), .ref (ad 1 5), .ref (ad 1 6), .int (nI (tk 1)), .int (nI ((va_up ct f9 (ct f9 + 1)) 1)), .int (nI (no 1))])), ((ad 1 1), .inl (k 0, 200, .inl (wdF (va_up wd (200 * f9 + ct f9) v9) 1))), ((ad 2 0), .inr (4, [.ref (ad 2 1), .ref (ad 2 2), .ref (ad 2 3), .ref (ad 2 4), .ref (ad 2 5), .ref (ad 2 6), .int (nI (tk 2)), .int (nI ((va_up ct f9 (ct f9 + 1)) 2)), .int (nI (no 2))])), ((ad 2 1), .inl (k 0, 200, .inl (wdF (va_up wd (200 * f9 + ct f9) v9) 2))), ((ad 3 0), .inr (4, [.ref (ad 3 1), .ref (ad 3 2), .ref (ad 3 3), .ref (ad 3 4), .ref (ad 3 5), .ref (ad 3 6), .int (nI (tk 3)), .int (nI ((va_up ct f9 (ct f9 + 1)) 3)), .int (nI (no 3))])), ((ad 3 1), .inl (k 0, 200, .inl (wdF (va_up wd (200 * f9 + ct f9) v9) 3)))]) 0 0 := by
  refine met_start (by decide) (Nat.le_of_ble_eq_true rfl) ?_
  intro p e s m below meth c C K hA hsz S ls hl
  generalize va_A [(h0, .inr (0, [.ref ca, .ref cr, .ref cu, .ref cne, .ref cs, .ref cb, .int (nI nf), .int wp, .int (nI it)])), (ca, .inl (k 3, 4, .inr (.inr (.inr (.inr (fun g => some (ad g 0))))))), ((ad 0 0), .inr (4, [.ref (ad 0 1), .ref (ad 0 2), .ref (ad 0 3), .ref (ad 0 4), .ref (ad 0 5), .ref (ad 0 6), .int (nI (tk 0)), .int (nI (ct 0)), .int (nI (no 0))])), ((ad 0 1), .inl (k 0, 200, .inl (wdF wd 0))), ((ad 1 0), .inr (4, [.ref (ad 1 1), .ref (ad 1 2), .ref (ad 1 3), .ref (ad 1 4), .ref (ad 1 5), .ref (ad 1 6), .int (nI (tk 1)), .int (nI (ct 1)), .int (nI (no 1))])), ((ad 1 1), .inl (k 0, 200, .inl (wdF wd 1))), ((ad 2 0), .inr (4, [.ref (ad 2 1), .ref (ad 2 2), .ref (ad 2 3), .ref (ad 2 4), .ref (ad 2 5), .ref (ad 2 6), .int (nI (tk 2)), .int (nI (ct 2)), .int (nI (no 2))])), ((ad 2 1), .inl (k 0, 200, .inl (wdF wd 2))), ((ad 3 0), .inr (4, [.ref (ad 3 1), .ref (ad 3 2), .ref (ad 3 3), .ref (ad 3 4), .ref (ad 3 5), .ref (ad 3 6), .int (nI (tk 3)), .int (nI (ct 3)), .int (nI (no 3))])), ((ad 3 1), .inl (k 0, 200, .inl (wdF wd 3)))] s0 = A at hA S ⊢
  have hx := C.1
  have hb := C.2.1
  have hl : lv_has ls 4 [(0, .ref h0), (1, .int (nI f9)), (2, .int v9)] := hl
  refine lv_aload_n hx hb d_PB_word_0 rfl (lv_at hl 0 rfl) ?_
  refine lv_iload_n hx hb d_PB_word_1 rfl (lv_at hl 1 rfl) ?_
  refine r_backi (wi := [(h0, .inr (0, [.ref ca, .ref cr, .ref cu, .ref cne, .ref cs, .ref cb, .int (nI nf), .int wp, .int (nI it)]))]) (wr := [(ca, .inl (k 3, 4, .inr (.inr (.inr (.inr (fun g => some (ad g 0))))))), ((ad 0 0), .inr (4, [.ref (ad 0 1), .ref (ad 0 2), .ref (ad 0 3), .ref (ad 0 4), .ref (ad 0 5), .ref (ad 0 6), .int (nI (tk 0)), .int (nI (ct 0)), .int (nI (no 0))])), ((ad 0 1), .inl (k 0, 200, .inl (wdF wd 0))), ((ad 1 0), .inr (4, [.ref (ad 1 1), .ref (ad 1 2), .ref (ad 1 3), .ref (ad 1 4), .ref (ad 1 5), .ref (ad 1 6), .int (nI (tk 1)), .int (nI (ct 1)), .int (nI (no 1))])), ((ad 1 1), .inl (k 0, 200, .inl (wdF wd 1))), ((ad 2 0), .inr (4, [.ref (ad 2 1), .ref (ad 2 2), .ref (ad 2 3), .ref (ad 2 4), .ref (ad 2 5), .ref (ad 2 6), .int (nI (tk 2)), .int (nI (ct 2)), .int (nI (no 2))])), ((ad 2 1), .inl (k 0, 200, .inl (wdF wd 2))), ((ad 3 0), .inr (4, [.ref (ad 3 1), .ref (ad 3 2), .ref (ad 3 3), .ref (ad 3 4), .ref (ad 3 5), .ref (ad 3 6), .int (nI (tk 3)), .int (nI (ct 3)), .int (nI (no 3))])), ((ad 3 1), .inl (k 0, 200, .inl (wdF wd 3)))]) S hA [0] [1, 2, 3, 4, 5, 6, 7, 8, 9] rfl rfl (by decide) (by decide) (va_runV (As := [.int (nI f9)]) (rest := []) ⟨hx, hb, C.2.2.1, C.2.2.2.1, C.2.2.2.2.1⟩ (g_PB_isFunction l G k h0 _ (nI f9) ca cr cu cne cs cb nf it wp) (k_virt (n := 1) C wc_PB_isFunction rfl rfl wz_PB wm_PB_63 wn_PB_isFunction ws_PB_isFunction (by decide +kernel) ⟨(Nat.le_of_ble_eq_true rfl), (Nat.le_of_ble_eq_true rfl)⟩) (pr_nowV K S [0] (by decide) rfl 0 rfl rfl) rfl rfl hl.1 rfl (lv_room (Nat.le_of_ble_eq_true rfl)) d_PB_word_2 ⟨(Nat.le_of_ble_eq_true rfl), (Nat.le_of_ble_eq_true rfl)⟩) (fun r3 u1 H locs hw2 S => ?_)
  have S : Sw G A s.heap _ _ [(ca, .inl (k 3, 4, .inr (.inr (.inr (.inr (fun g => some (ad g 0))))))), ((ad 0 0), .inr (4, [.ref (ad 0 1), .ref (ad 0 2), .ref (ad 0 3), .ref (ad 0 4), .ref (ad 0 5), .ref (ad 0 6), .int (nI (tk 0)), .int (nI (ct 0)), .int (nI (no 0))])), ((ad 0 1), .inl (k 0, 200, .inl (wdF wd 0))), ((ad 1 0), .inr (4, [.ref (ad 1 1), .ref (ad 1 2), .ref (ad 1 3), .ref (ad 1 4), .ref (ad 1 5), .ref (ad 1 6), .int (nI (tk 1)), .int (nI (ct 1)), .int (nI (no 1))])), ((ad 1 1), .inl (k 0, 200, .inl (wdF wd 1))), ((ad 2 0), .inr (4, [.ref (ad 2 1), .ref (ad 2 2), .ref (ad 2 3), .ref (ad 2 4), .ref (ad 2 5), .ref (ad 2 6), .int (nI (tk 2)), .int (nI (ct 2)), .int (nI (no 2))])), ((ad 2 1), .inl (k 0, 200, .inl (wdF wd 2))), ((ad 3 0), .inr (4, [.ref (ad 3 1), .ref (ad 3 2), .ref (ad 3 3), .ref (ad 3 4), .ref (ad 3 5), .ref (ad 3 6), .int (nI (tk 3)), .int (nI (ct 3)), .int (nI (no 3))])), ((ad 3 1), .inl (k 0, 200, .inl (wdF wd 3))), (h0, .inr (0, [.ref ca, .ref cr, .ref cu, .ref cne, .ref cs, .ref cb, .int (nI nf), .int wp, .int (nI it)]))] := S
  obtain ⟨hw20, hp4⟩ := hw2
  obtain rfl : r3 = isF (nI nf) (nI f9) := hw20
  rw [isF_lt hf hnf]
  refine lv_if_ne (tgt := 10) hx hb d_PB_word_5 (by decide) (fun _ => ?_) (fun hq => absurd hq (by decide))
  refine lv_aload_n hx hb d_PB_word_10 rfl (lv_at hl 0 rfl) ?_
  refine r_get C K S 9 rfl rfl clOk_PB 0 (by decide) wf_PB_11 (v := .ref ca) rfl d_PB_word_11 ?_
  refine lv_iload_n hx hb d_PB_word_14 rfl (lv_at hl 1 rfl) ?_
  refine r_aald C K S 0 3 rfl rfl (i := nI f9) (show vp_in (nI f9) _ from vp_in_nI (n := f9) (by omega) (by decide)) (b := (ad f9 0)) (by rw [nI_clamp (by omega)]) d_PB_word_15 ?_
  obtain ⟨g1, g2, g3, hpm⟩ := pm4_of (f := f9) (by omega)
  have S : Sw G A s.heap _ _ [(ca, .inl (k 3, 4, .inr (.inr (.inr (.inr (fun g => some (ad g 0))))))), (h0, .inr (0, [.ref ca, .ref cr, .ref cu, .ref cne, .ref cs, .ref cb, .int (nI nf), .int wp, .int (nI it)])), ((ad f9 0), .inr (4, [.ref (ad f9 1), .ref (ad f9 2), .ref (ad f9 3), .ref (ad f9 4), .ref (ad f9 5), .ref (ad f9 6), .int (nI (tk f9)), .int (nI (ct f9)), .int (nI (no f9))])), ((ad f9 1), .inl (k 0, 200, .inl (wdF wd f9))), ((ad g1 0), .inr (4, [.ref (ad g1 1), .ref (ad g1 2), .ref (ad g1 3), .ref (ad g1 4), .ref (ad g1 5), .ref (ad g1 6), .int (nI (tk g1)), .int (nI (ct g1)), .int (nI (no g1))])), ((ad g1 1), .inl (k 0, 200, .inl (wdF wd g1))), ((ad g2 0), .inr (4, [.ref (ad g2 1), .ref (ad g2 2), .ref (ad g2 3), .ref (ad g2 4), .ref (ad g2 5), .ref (ad g2 6), .int (nI (tk g2)), .int (nI (ct g2)), .int (nI (no g2))])), ((ad g2 1), .inl (k 0, 200, .inl (wdF wd g2))), ((ad g3 0), .inr (4, [.ref (ad g3 1), .ref (ad g3 2), .ref (ad g3 3), .ref (ad g3 4), .ref (ad g3 5), .ref (ad g3 6), .int (nI (tk g3)), .int (nI (ct g3)), .int (nI (no g3))])), ((ad g3 1), .inl (k 0, 200, .inl (wdF wd g3)))] := S.sub4 (by
    rcases hpm with ⟨h1, h2, h3, h4⟩ | ⟨h1, h2, h3, h4⟩ | ⟨h1, h2, h3, h4⟩ | ⟨h1, h2, h3, h4⟩ <;> subst h1 <;> subst h2 <;> subst h3 <;> subst h4
    · exact ⟨[0, 9, 1, 2, 3, 4, 5, 6, 7, 8], by decide, rfl⟩
    · exact ⟨[0, 9, 3, 4, 1, 2, 5, 6, 7, 8], by decide, rfl⟩
    · exact ⟨[0, 9, 5, 6, 1, 2, 3, 4, 7, 8], by decide, rfl⟩
    · exact ⟨[0, 9, 7, 8, 1, 2, 3, 4, 5, 6], by decide, rfl⟩)
  refine lv_astore_n (lv' := [(3, .ref (ad f9 0)), (0, .ref h0), (1, .int (nI f9)), (2, .int v9)]) hx hb d_PB_word_16 rfl hl (by decide) rfl (fun ls hl => ?_)
  refine lv_aload_n hx hb d_PB_word_17 rfl (lv_at hl 0 rfl) ?_
  refine r_getN C K S 2 rfl rfl clOk_Bo 7 (by decide) xf_PB_67 (v := .int (nI (ct f9))) rfl d_PB_word_18 ?_
  refine lv_sipush (v := 200) hx hb d_PB_word_21 (by decide) ?_
  refine z_icmp_ne (a := (ct f9)) (b := 200) (tgt := 30) hx hb d_PB_word_24 (by decide) (by omega) (by omega) (fun hc5 => ?_) (fun hc5 => False.elim (by omega))
  refine lv_aload_n hx hb d_PB_word_30 rfl (lv_at hl 0 rfl) ?_
  refine r_getN C K S 2 rfl rfl clOk_Bo 0 (by decide) xf_PB_70 (v := .ref (ad f9 1)) rfl d_PB_word_31 ?_
  refine lv_aload_n hx hb d_PB_word_34 rfl (lv_at hl 0 rfl) ?_
  refine r_getN C K S 2 rfl rfl clOk_Bo 7 (by decide) xf_PB_67 (v := .int (nI (ct f9))) rfl d_PB_word_35 ?_
  refine lv_iload_n hx hb d_PB_word_38 rfl (lv_at hl 3 rfl) ?_
  refine r_iast C K S 3 rfl (i := nI (ct f9)) (x := v9) (show vp_in (nI (ct f9)) _ from vp_in_nI (n := (ct f9)) (by omega) (by decide)) (f' := va_up (wdF wd f9) (ct f9) v9) (ws' := [(ca, .inl (k 3, 4, .inr (.inr (.inr (.inr (fun g => some (ad g 0))))))), (h0, .inr (0, [.ref ca, .ref cr, .ref cu, .ref cne, .ref cs, .ref cb, .int (nI nf), .int wp, .int (nI it)])), ((ad f9 0), .inr (4, [.ref (ad f9 1), .ref (ad f9 2), .ref (ad f9 3), .ref (ad f9 4), .ref (ad f9 5), .ref (ad f9 6), .int (nI (tk f9)), .int (nI (ct f9)), .int (nI (no f9))])), ((ad f9 1), .inl (k 0, 200, .inl (va_up (wdF wd f9) (ct f9) v9))), ((ad g1 0), .inr (4, [.ref (ad g1 1), .ref (ad g1 2), .ref (ad g1 3), .ref (ad g1 4), .ref (ad g1 5), .ref (ad g1 6), .int (nI (tk g1)), .int (nI (ct g1)), .int (nI (no g1))])), ((ad g1 1), .inl (k 0, 200, .inl (wdF wd g1))), ((ad g2 0), .inr (4, [.ref (ad g2 1), .ref (ad g2 2), .ref (ad g2 3), .ref (ad g2 4), .ref (ad g2 5), .ref (ad g2 6), .int (nI (tk g2)), .int (nI (ct g2)), .int (nI (no g2))])), ((ad g2 1), .inl (k 0, 200, .inl (wdF wd g2))), ((ad g3 0), .inr (4, [.ref (ad g3 1), .ref (ad g3 2), .ref (ad g3 3), .ref (ad g3 4), .ref (ad g3 5), .ref (ad g3 6), .int (nI (tk g3)), .int (nI (ct g3)), .int (nI (no g3))])), ((ad g3 1), .inl (k 0, 200, .inl (wdF wd g3)))]) (show upd _ (nI (ct f9) : Int32).toNatClampNeg v9 = _ from upd_W (wdF wd f9) (j := (ct f9)) (by omega) v9) rfl d_PB_word_39 (fun H locs S => ?_)
  refine lv_aload_n hx hb d_PB_word_40 rfl (lv_at hl 0 rfl) ?_
  refine lv_dup hx hb d_PB_word_41 rfl ?_
  refine r_getN C K S 2 rfl rfl clOk_Bo 7 (by decide) xf_PB_67 (v := .int (nI (ct f9))) rfl d_PB_word_42 ?_
  refine lv_iconst (v := 1) hx hb d_PB_word_45 (by decide) ?_
  refine z_iadd (x := nI (ct f9)) (y := 1) (v := nI (ct f9 + 1)) hx hb d_PB_word_46 (nI_add (ct f9) 1) ?_
  refine r_putN C K S 2 rfl rfl clOk_Bo 7 (by decide) xf_PB_67 rfl (ty := .int) (v := .int (nI (ct f9 + 1))) (by decide +kernel) rfl rfl (Nat.le_of_ble_eq_true rfl) (fs' := [.ref (ad f9 1), .ref (ad f9 2), .ref (ad f9 3), .ref (ad f9 4), .ref (ad f9 5), .ref (ad f9 6), .int (nI (tk f9)), .int (nI (ct f9 + 1)), .int (nI (no f9))]) (ws' := [(ca, .inl (k 3, 4, .inr (.inr (.inr (.inr (fun g => some (ad g 0))))))), (h0, .inr (0, [.ref ca, .ref cr, .ref cu, .ref cne, .ref cs, .ref cb, .int (nI nf), .int wp, .int (nI it)])), ((ad f9 0), .inr (4, [.ref (ad f9 1), .ref (ad f9 2), .ref (ad f9 3), .ref (ad f9 4), .ref (ad f9 5), .ref (ad f9 6), .int (nI (tk f9)), .int (nI (ct f9 + 1)), .int (nI (no f9))])), ((ad f9 1), .inl (k 0, 200, .inl (va_up (wdF wd f9) (ct f9) v9))), ((ad g1 0), .inr (4, [.ref (ad g1 1), .ref (ad g1 2), .ref (ad g1 3), .ref (ad g1 4), .ref (ad g1 5), .ref (ad g1 6), .int (nI (tk g1)), .int (nI (ct g1)), .int (nI (no g1))])), ((ad g1 1), .inl (k 0, 200, .inl (wdF wd g1))), ((ad g2 0), .inr (4, [.ref (ad g2 1), .ref (ad g2 2), .ref (ad g2 3), .ref (ad g2 4), .ref (ad g2 5), .ref (ad g2 6), .int (nI (tk g2)), .int (nI (ct g2)), .int (nI (no g2))])), ((ad g2 1), .inl (k 0, 200, .inl (wdF wd g2))), ((ad g3 0), .inr (4, [.ref (ad g3 1), .ref (ad g3 2), .ref (ad g3 3), .ref (ad g3 4), .ref (ad g3 5), .ref (ad g3 6), .int (nI (tk g3)), .int (nI (ct g3)), .int (nI (no g3))])), ((ad g3 1), .inl (k 0, 200, .inl (wdF wd g3)))]) rfl rfl d_PB_word_47 (fun H locs S => ?_)
  refine lv_aload_n hx hb d_PB_word_50 rfl (lv_at hl 0 rfl) ?_
  refine r_getN C K S 2 rfl rfl clOk_Bo 7 (by decide) xf_PB_67 (v := .int (nI (ct f9 + 1))) rfl d_PB_word_51 ?_
  have S : Sw G A s.heap H locs [(ca, .inl (k 3, 4, .inr (.inr (.inr (.inr (fun g => some (ad g 0))))))), (h0, .inr (0, [.ref ca, .ref cr, .ref cu, .ref cne, .ref cs, .ref cb, .int (nI nf), .int wp, .int (nI it)])), ((ad f9 0), .inr (4, [.ref (ad f9 1), .ref (ad f9 2), .ref (ad f9 3), .ref (ad f9 4), .ref (ad f9 5), .ref (ad f9 6), .int (nI (tk f9)), .int (nI (ct f9 + 1)), .int (nI (no f9))])), ((ad f9 1), .inl (k 0, 200, .inl (wdF (va_up wd (200 * f9 + ct f9) v9) f9))), ((ad g1 0), .inr (4, [.ref (ad g1 1), .ref (ad g1 2), .ref (ad g1 3), .ref (ad g1 4), .ref (ad g1 5), .ref (ad g1 6), .int (nI (tk g1)), .int (nI (ct g1)), .int (nI (no g1))])), ((ad g1 1), .inl (k 0, 200, .inl (wdF wd g1))), ((ad g2 0), .inr (4, [.ref (ad g2 1), .ref (ad g2 2), .ref (ad g2 3), .ref (ad g2 4), .ref (ad g2 5), .ref (ad g2 6), .int (nI (tk g2)), .int (nI (ct g2)), .int (nI (no g2))])), ((ad g2 1), .inl (k 0, 200, .inl (wdF wd g2))), ((ad g3 0), .inr (4, [.ref (ad g3 1), .ref (ad g3 2), .ref (ad g3 3), .ref (ad g3 4), .ref (ad g3 5), .ref (ad g3 6), .int (nI (tk g3)), .int (nI (ct g3)), .int (nI (no g3))])), ((ad g3 1), .inl (k 0, 200, .inl (wdF wd g3)))] := S.arr 3 rfl (fun i _ => wdF_same i) rfl
  have hne : g1 ≠ f9 ∧ g2 ≠ f9 ∧ g3 ≠ f9 := by unfold pm4 at hpm; omega
  have S : Sw G A s.heap H locs [(ca, .inl (k 3, 4, .inr (.inr (.inr (.inr (fun g => some (ad g 0))))))), (h0, .inr (0, [.ref ca, .ref cr, .ref cu, .ref cne, .ref cs, .ref cb, .int (nI nf), .int wp, .int (nI it)])), ((ad f9 0), .inr (4, [.ref (ad f9 1), .ref (ad f9 2), .ref (ad f9 3), .ref (ad f9 4), .ref (ad f9 5), .ref (ad f9 6), .int (nI (tk f9)), .int (nI (ct f9 + 1)), .int (nI (no f9))])), ((ad f9 1), .inl (k 0, 200, .inl (wdF (va_up wd (200 * f9 + ct f9) v9) f9))), ((ad g1 0), .inr (4, [.ref (ad g1 1), .ref (ad g1 2), .ref (ad g1 3), .ref (ad g1 4), .ref (ad g1 5), .ref (ad g1 6), .int (nI (tk g1)), .int (nI (ct g1)), .int (nI (no g1))])), ((ad g1 1), .inl (k 0, 200, .inl (wdF (va_up wd (200 * f9 + ct f9) v9) g1))), ((ad g2 0), .inr (4, [.ref (ad g2 1), .ref (ad g2 2), .ref (ad g2 3), .ref (ad g2 4), .ref (ad g2 5), .ref (ad g2 6), .int (nI (tk g2)), .int (nI (ct g2)), .int (nI (no g2))])), ((ad g2 1), .inl (k 0, 200, .inl (wdF wd g2))), ((ad g3 0), .inr (4, [.ref (ad g3 1), .ref (ad g3 2), .ref (ad g3 3), .ref (ad g3 4), .ref (ad g3 5), .ref (ad g3 6), .int (nI (tk g3)), .int (nI (ct g3)), .int (nI (no g3))])), ((ad g3 1), .inl (k 0, 200, .inl (wdF wd g3)))] := S.arr 5 rfl (wdF_other hc hne.1) rfl
  have S : Sw G A s.heap H locs [(ca, .inl (k 3, 4, .inr (.inr (.inr (.inr (fun g => some (ad g 0))))))), (h0, .inr (0, [.ref ca, .ref cr, .ref cu, .ref cne, .ref cs, .ref cb, .int (nI nf), .int wp, .int (nI it)])), ((ad f9 0), .inr (4, [.ref (ad f9 1), .ref (ad f9 2), .ref (ad f9 3), .ref (ad f9 4), .ref (ad f9 5), .ref (ad f9 6), .int (nI (tk f9)), .int (nI (ct f9 + 1)), .int (nI (no f9))])), ((ad f9 1), .inl (k 0, 200, .inl (wdF (va_up wd (200 * f9 + ct f9) v9) f9))), ((ad g1 0), .inr (4, [.ref (ad g1 1), .ref (ad g1 2), .ref (ad g1 3), .ref (ad g1 4), .ref (ad g1 5), .ref (ad g1 6), .int (nI (tk g1)), .int (nI (ct g1)), .int (nI (no g1))])), ((ad g1 1), .inl (k 0, 200, .inl (wdF (va_up wd (200 * f9 + ct f9) v9) g1))), ((ad g2 0), .inr (4, [.ref (ad g2 1), .ref (ad g2 2), .ref (ad g2 3), .ref (ad g2 4), .ref (ad g2 5), .ref (ad g2 6), .int (nI (tk g2)), .int (nI (ct g2)), .int (nI (no g2))])), ((ad g2 1), .inl (k 0, 200, .inl (wdF (va_up wd (200 * f9 + ct f9) v9) g2))), ((ad g3 0), .inr (4, [.ref (ad g3 1), .ref (ad g3 2), .ref (ad g3 3), .ref (ad g3 4), .ref (ad g3 5), .ref (ad g3 6), .int (nI (tk g3)), .int (nI (ct g3)), .int (nI (no g3))])), ((ad g3 1), .inl (k 0, 200, .inl (wdF wd g3)))] := S.arr 7 rfl (wdF_other hc hne.2.1) rfl
  have S : Sw G A s.heap H locs [(ca, .inl (k 3, 4, .inr (.inr (.inr (.inr (fun g => some (ad g 0))))))), (h0, .inr (0, [.ref ca, .ref cr, .ref cu, .ref cne, .ref cs, .ref cb, .int (nI nf), .int wp, .int (nI it)])), ((ad f9 0), .inr (4, [.ref (ad f9 1), .ref (ad f9 2), .ref (ad f9 3), .ref (ad f9 4), .ref (ad f9 5), .ref (ad f9 6), .int (nI (tk f9)), .int (nI (ct f9 + 1)), .int (nI (no f9))])), ((ad f9 1), .inl (k 0, 200, .inl (wdF (va_up wd (200 * f9 + ct f9) v9) f9))), ((ad g1 0), .inr (4, [.ref (ad g1 1), .ref (ad g1 2), .ref (ad g1 3), .ref (ad g1 4), .ref (ad g1 5), .ref (ad g1 6), .int (nI (tk g1)), .int (nI (ct g1)), .int (nI (no g1))])), ((ad g1 1), .inl (k 0, 200, .inl (wdF (va_up wd (200 * f9 + ct f9) v9) g1))), ((ad g2 0), .inr (4, [.ref (ad g2 1), .ref (ad g2 2), .ref (ad g2 3), .ref (ad g2 4), .ref (ad g2 5), .ref (ad g2 6), .int (nI (tk g2)), .int (nI (ct g2)), .int (nI (no g2))])), ((ad g2 1), .inl (k 0, 200, .inl (wdF (va_up wd (200 * f9 + ct f9) v9) g2))), ((ad g3 0), .inr (4, [.ref (ad g3 1), .ref (ad g3 2), .ref (ad g3 3), .ref (ad g3 4), .ref (ad g3 5), .ref (ad g3 6), .int (nI (tk g3)), .int (nI (ct g3)), .int (nI (no g3))])), ((ad g3 1), .inl (k 0, 200, .inl (wdF (va_up wd (200 * f9 + ct f9) v9) g3)))] := S.arr 9 rfl (wdF_other hc hne.2.2) rfl
  have S : Sw G A s.heap _ _ [(h0, .inr (0, [.ref ca, .ref cr, .ref cu, .ref cne, .ref cs, .ref cb, .int (nI nf), .int wp, .int (nI it)])), (ca, .inl (k 3, 4, .inr (.inr (.inr (.inr (fun g => some (ad g 0))))))), ((ad 0 0), .inr (4, [.ref (ad 0 1), .ref (ad 0 2), .ref (ad 0 3), .ref (ad 0 4), .ref (ad 0 5), .ref (ad 0 6), .int (nI (tk 0)), .int (nI ((va_up ct f9 (ct f9 + 1)) 0)), .int (nI (no 0))])), ((ad 0 1), .inl (k 0, 200, .inl (wdF (va_up wd (200 * f9 + ct f9) v9) 0))), ((ad 1 0), .inr (4, [.ref (ad 1 1), .ref (ad 1 2), .ref (ad 1 3), .ref (ad 1 4), .ref (ad 1 5), .ref (ad 1 6), .int (nI (tk 1)), .int (nI ((va_up ct f9 (ct f9 + 1)) 1)), .int (nI (no 1))])), ((ad 1 1), .inl (k 0, 200, .inl (wdF (va_up wd (200 * f9 + ct f9) v9) 1))), ((ad 2 0), .inr (4, [.ref (ad 2 1), .ref (ad 2 2), .ref (ad 2 3), .ref (ad 2 4), .ref (ad 2 5), .ref (ad 2 6), .int (nI (tk 2)), .int (nI ((va_up ct f9 (ct f9 + 1)) 2)), .int (nI (no 2))])), ((ad 2 1), .inl (k 0, 200, .inl (wdF (va_up wd (200 * f9 + ct f9) v9) 2))), ((ad 3 0), .inr (4, [.ref (ad 3 1), .ref (ad 3 2), .ref (ad 3 3), .ref (ad 3 4), .ref (ad 3 5), .ref (ad 3 6), .int (nI (tk 3)), .int (nI ((va_up ct f9 (ct f9 + 1)) 3)), .int (nI (no 3))])), ((ad 3 1), .inl (k 0, 200, .inl (wdF (va_up wd (200 * f9 + ct f9) v9) 3)))] := S.sub4 (by
    rcases hpm with ⟨h1, h2, h3, h4⟩ | ⟨h1, h2, h3, h4⟩ | ⟨h1, h2, h3, h4⟩ | ⟨h1, h2, h3, h4⟩ <;> subst h1 <;> subst h2 <;> subst h3 <;> subst h4
    · exact ⟨[1, 0, 2, 3, 4, 5, 6, 7, 8, 9], by decide, rfl⟩
    · exact ⟨[1, 0, 4, 5, 2, 3, 6, 7, 8, 9], by decide, rfl⟩
    · exact ⟨[1, 0, 4, 5, 6, 7, 2, 3, 8, 9], by decide, rfl⟩
    · exact ⟨[1, 0, 4, 5, 6, 7, 8, 9, 2, 3], by decide, rfl⟩)
  exact r_iret C K rfl () ⟨rfl, trivial⟩ (S.sub [0, 1, 2, 3, 4, 5, 6, 7, 8, 9] (by decide) rfl) d_PB_word_54 (Nat.le_of_ble_eq_true rfl) (Nat.le_of_ble_eq_true rfl)
theorem d_PB_cut_0 : decode c_PB_cut 0 = .ok (.aload_n 0, 1) := by decide +kernel
theorem d_PB_cut_1 : decode c_PB_cut 1 = .ok (.iload_n 1, 1) := by decide +kernel
theorem d_PB_cut_2 : decode c_PB_cut 2 = .ok (.invokevirtual 63, 3) := by decide +kernel
theorem d_PB_cut_5 : decode c_PB_cut 5 = .ok (.ifCond .eq 20, 3) := by decide +kernel
theorem d_PB_cut_8 : decode c_PB_cut 8 = .ok (.iload_n 2, 1) := by decide +kernel
theorem d_PB_cut_9 : decode c_PB_cut 9 = .ok (.ifCond .lt 16, 3) := by decide +kernel
theorem d_PB_cut_12 : decode c_PB_cut 12 = .ok (.iload_n 2, 1) := by decide +kernel
theorem d_PB_cut_13 : decode c_PB_cut 13 = .ok (.aload_n 0, 1) := by decide +kernel
theorem d_PB_cut_14 : decode c_PB_cut 14 = .ok (.getfield 11, 3) := by decide +kernel
theorem d_PB_cut_17 : decode c_PB_cut 17 = .ok (.iload_n 1, 1) := by decide +kernel
theorem d_PB_cut_18 : decode c_PB_cut 18 = .ok (.aaload, 1) := by decide +kernel
theorem d_PB_cut_19 : decode c_PB_cut 19 = .ok (.getfield 67, 3) := by decide +kernel
theorem d_PB_cut_22 : decode c_PB_cut 22 = .ok (.if_icmp .le 5, 3) := by decide +kernel
theorem d_PB_cut_25 : decode c_PB_cut 25 = .ok (.iconst 0, 1) := by decide +kernel
theorem d_PB_cut_26 : decode c_PB_cut 26 = .ok (.ireturn, 1) := by decide +kernel
theorem d_PB_cut_27 : decode c_PB_cut 27 = .ok (.aload_n 0, 1) := by decide +kernel
theorem d_PB_cut_28 : decode c_PB_cut 28 = .ok (.getfield 11, 3) := by decide +kernel
theorem d_PB_cut_31 : decode c_PB_cut 31 = .ok (.iload_n 1, 1) := by decide +kernel
theorem d_PB_cut_32 : decode c_PB_cut 32 = .ok (.aaload, 1) := by decide +kernel
theorem d_PB_cut_33 : decode c_PB_cut 33 = .ok (.iload_n 2, 1) := by decide +kernel
theorem d_PB_cut_34 : decode c_PB_cut 34 = .ok (.putfield 67, 3) := by decide +kernel
theorem d_PB_cut_37 : decode c_PB_cut 37 = .ok (.iconst 1, 1) := by decide +kernel
theorem d_PB_cut_38 : decode c_PB_cut 38 = .ok (.ireturn, 1) := by decide +kernel
set_option maxRecDepth 100000 in
set_option maxHeartbeats 16000000 in
/-- cut, no function -/
theorem g_PB_cut_bad (l : Launch) (G : va_G) (k : Nat → ClassId) (h0 : Nat) (s0 : Nat) (fi : Int32) (ni : Int32) (ca : Nat) (cr : Nat) (cu : Nat) (cne : Nat) (cs : Nat) (cb : Nat) (nf : Nat) (it : Nat) (wp : Int32) (hf : isF (nI nf) fi = 0) : CI l y_PB_cut c_PB_cut 3 .boolean { frames := 1, cells := 0, slots := 0, locals := 21 } [.ref h0, .int fi, .int ni] G k s0 [(h0, .inr (0, [.ref ca, .ref cr, .ref cu, .ref cne, .ref cs, .ref cb, .int (nI nf), .int wp, .int (nI it)]))] (fun (r : Int32) (u : Unit) => r = 0 ∧ True) (fun u => [(h0, .inr (0, [.ref ca, .ref cr, .ref cu, .ref cne, .ref cs, .ref cb, .int (nI nf), .int wp, .int (nI it)]))]) 0 0 := by
  refine met_start (by decide) (Nat.le_of_ble_eq_true rfl) ?_
  intro p e s m below meth c C K hA hsz S ls hl
  generalize va_A [(h0, .inr (0, [.ref ca, .ref cr, .ref cu, .ref cne, .ref cs, .ref cb, .int (nI nf), .int wp, .int (nI it)]))] s0 = A at hA S ⊢
  have hx := C.1
  have hb := C.2.1
  have hl : lv_has ls 3 [(0, .ref h0), (1, .int fi), (2, .int ni)] := hl
  refine lv_aload_n hx hb d_PB_cut_0 rfl (lv_at hl 0 rfl) ?_
  refine lv_iload_n hx hb d_PB_cut_1 rfl (lv_at hl 1 rfl) ?_
  refine r_backi (wi := [(h0, .inr (0, [.ref ca, .ref cr, .ref cu, .ref cne, .ref cs, .ref cb, .int (nI nf), .int wp, .int (nI it)]))]) (wr := []) S hA [0] [] rfl rfl (by decide) (by decide) (va_runV (As := [.int fi]) (rest := []) ⟨hx, hb, C.2.2.1, C.2.2.2.1, C.2.2.2.2.1⟩ (g_PB_isFunction l G k h0 _ fi ca cr cu cne cs cb nf it wp) (k_virt (n := 1) C wc_PB_isFunction rfl rfl wz_PB wm_PB_63 wn_PB_isFunction ws_PB_isFunction (by decide +kernel) ⟨(Nat.le_of_ble_eq_true rfl), (Nat.le_of_ble_eq_true rfl)⟩) (pr_nowV K S [0] (by decide) rfl 0 rfl rfl) rfl rfl hl.1 rfl (lv_room (Nat.le_of_ble_eq_true rfl)) d_PB_cut_2 ⟨(Nat.le_of_ble_eq_true rfl), (Nat.le_of_ble_eq_true rfl)⟩) (fun r3 u1 H locs hw2 S => ?_)
  have S : Sw G A s.heap _ _ [(h0, .inr (0, [.ref ca, .ref cr, .ref cu, .ref cne, .ref cs, .ref cb, .int (nI nf), .int wp, .int (nI it)]))] := S
  obtain ⟨hw20, hp4⟩ := hw2
  obtain rfl : r3 = isF (nI nf) fi := hw20
  rw [hf]
  refine lv_if_eq (tgt := 25) hx hb d_PB_cut_5 (by decide) (fun _ => ?_) (fun hq => absurd (by decide) hq)
  refine lv_iconst (v := 0) hx hb d_PB_cut_25 (by decide) ?_
  exact r_iret C K rfl () ⟨rfl, trivial⟩ (S.sub [0] (by decide) rfl) d_PB_cut_26 (Nat.le_of_ble_eq_true rfl) (Nat.le_of_ble_eq_true rfl)
set_option maxRecDepth 100000 in
set_option maxHeartbeats 16000000 in
/-- cut, a wrong number -/
theorem g_PB_cut_no (l : Launch) (G : va_G) (k : Nat → ClassId) (h0 : Nat) (s0 : Nat) (f9 : Nat) (ni : Int32) (ca : Nat) (cr : Nat) (cu : Nat) (cne : Nat) (cs : Nat) (cb : Nat) (nf : Nat) (it : Nat) (wp : Int32) (ad : Nat → Nat → Nat) (wd : Nat → Int32) (tk : Nat → Nat) (ct : Nat → Nat) (no : Nat → Nat) (ta : Nat → Nat → Nat → Nat) (hf : f9 < nf) (hnf : nf ≤ 4) (hn : ni < 0 ∨ ¬ ni ≤ nI (ct f9)) : CI l y_PB_cut c_PB_cut 3 .boolean { frames := 1, cells := 0, slots := 0, locals := 21 } [.ref h0, .int (nI f9), .int ni] G k s0 [(h0, .inr (0, [.ref ca, .ref cr, .ref cu, .ref cne, .ref cs, .ref cb, .int (nI nf), .int wp, .int (nI it)])), (ca, .inl (k 3, 4, .inr (.inr (.inr (.inr (fun g => some (ad g 0))))))), ((ad 0 0), .inr (4, [.ref (ad 0 1), .ref (ad 0 2), .ref (ad 0 3), .ref (ad 0 4), .ref (ad 0 5), .ref (ad 0 6), .int (nI (tk 0)), .int (nI (ct 0)), .int (nI (no 0))])), ((ad 1 0), .inr (4, [.ref (ad 1 1), .ref (ad 1 2), .ref (ad 1 3), .ref (ad 1 4), .ref (ad 1 5), .ref (ad 1 6), .int (nI (tk 1)), .int (nI (ct 1)), .int (nI (no 1))])), ((ad 2 0), .inr (4, [.ref (ad 2 1), .ref (ad 2 2), .ref (ad 2 3), .ref (ad 2 4), .ref (ad 2 5), .ref (ad 2 6), .int (nI (tk 2)), .int (nI (ct 2)), .int (nI (no 2))])), ((ad 3 0), .inr (4, [.ref (ad 3 1), .ref (ad 3 2), .ref (ad 3 3), .ref (ad 3 4), .ref (ad 3 5), .ref (ad 3 6), .int (nI (tk 3)), .int (nI (ct 3)), .int (nI (no 3))]))] (fun (r : Int32) (u : Unit) => r = 0 ∧ True) (fun u => [(h0, .inr (0, [.ref ca, .ref cr, .ref cu, .ref cne, .ref cs, .ref cb, .int (nI nf), .int wp, .int (nI it)])), (ca, .inl (k 3, 4, .inr (.inr (.inr (.inr (fun g => some (ad g 0))))))), ((ad 0 0), .inr (4, [.ref (ad 0 1), .ref (ad 0 2), .ref (ad 0 3), .ref (ad 0 4), .ref (ad 0 5), .ref (ad 0 6), .int (nI (tk 0)), .int (nI (ct 0)), .int (nI (no 0))])), ((ad 1 0), .inr (4, [.ref (ad 1 1), .ref (ad 1 2), .ref (ad 1 3), .ref (ad 1 4), .ref (ad 1 5), .ref (ad 1 6), .int (nI (tk 1)), .int (nI (ct 1)), .int (nI (no 1))])), ((ad 2 0), .inr (4, [.ref (ad 2 1), .ref (ad 2 2), .ref (ad 2 3), .ref (ad 2 4), .ref (ad 2 5), .ref (ad 2 6), .int (nI (tk 2)), .int (nI (ct 2)), .int (nI (no 2))])), ((ad 3 0), .inr (4, [.ref (ad 3 1), .ref (ad 3 2), .ref (ad 3 3), .ref (ad 3 4), .ref (ad 3 5), .ref (ad 3 6), .int (nI (tk 3)), .int (nI (ct 3)), .int (nI (no 3))]))]) 0 0 := by
  refine met_start (by decide) (Nat.le_of_ble_eq_true rfl) ?_
  intro p e s m below meth c C K hA hsz S ls hl
  generalize va_A [(h0, .inr (0, [.ref ca, .ref cr, .ref cu, .ref cne, .ref cs, .ref cb, .int (nI nf), .int wp, .int (nI it)])), (ca, .inl (k 3, 4, .inr (.inr (.inr (.inr (fun g => some (ad g 0))))))), ((ad 0 0), .inr (4, [.ref (ad 0 1), .ref (ad 0 2), .ref (ad 0 3), .ref (ad 0 4), .ref (ad 0 5), .ref (ad 0 6), .int (nI (tk 0)), .int (nI (ct 0)), .int (nI (no 0))])), ((ad 1 0), .inr (4, [.ref (ad 1 1), .ref (ad 1 2), .ref (ad 1 3), .ref (ad 1 4), .ref (ad 1 5), .ref (ad 1 6), .int (nI (tk 1)), .int (nI (ct 1)), .int (nI (no 1))])), ((ad 2 0), .inr (4, [.ref (ad 2 1), .ref (ad 2 2), .ref (ad 2 3), .ref (ad 2 4), .ref (ad 2 5), .ref (ad 2 6), .int (nI (tk 2)), .int (nI (ct 2)), .int (nI (no 2))])), ((ad 3 0), .inr (4, [.ref (ad 3 1), .ref (ad 3 2), .ref (ad 3 3), .ref (ad 3 4), .ref (ad 3 5), .ref (ad 3 6), .int (nI (tk 3)), .int (nI (ct 3)), .int (nI (no 3))]))] s0 = A at hA S ⊢
  have hx := C.1
  have hb := C.2.1
  have hl : lv_has ls 3 [(0, .ref h0), (1, .int (nI f9)), (2, .int ni)] := hl
  refine lv_aload_n hx hb d_PB_cut_0 rfl (lv_at hl 0 rfl) ?_
  refine lv_iload_n hx hb d_PB_cut_1 rfl (lv_at hl 1 rfl) ?_
  refine r_backi (wi := [(h0, .inr (0, [.ref ca, .ref cr, .ref cu, .ref cne, .ref cs, .ref cb, .int (nI nf), .int wp, .int (nI it)]))]) (wr := [(ca, .inl (k 3, 4, .inr (.inr (.inr (.inr (fun g => some (ad g 0))))))), ((ad 0 0), .inr (4, [.ref (ad 0 1), .ref (ad 0 2), .ref (ad 0 3), .ref (ad 0 4), .ref (ad 0 5), .ref (ad 0 6), .int (nI (tk 0)), .int (nI (ct 0)), .int (nI (no 0))])), ((ad 1 0), .inr (4, [.ref (ad 1 1), .ref (ad 1 2), .ref (ad 1 3), .ref (ad 1 4), .ref (ad 1 5), .ref (ad 1 6), .int (nI (tk 1)), .int (nI (ct 1)), .int (nI (no 1))])), ((ad 2 0), .inr (4, [.ref (ad 2 1), .ref (ad 2 2), .ref (ad 2 3), .ref (ad 2 4), .ref (ad 2 5), .ref (ad 2 6), .int (nI (tk 2)), .int (nI (ct 2)), .int (nI (no 2))])), ((ad 3 0), .inr (4, [.ref (ad 3 1), .ref (ad 3 2), .ref (ad 3 3), .ref (ad 3 4), .ref (ad 3 5), .ref (ad 3 6), .int (nI (tk 3)), .int (nI (ct 3)), .int (nI (no 3))]))]) S hA [0] [1, 2, 3, 4, 5] rfl rfl (by decide) (by decide) (va_runV (As := [.int (nI f9)]) (rest := []) ⟨hx, hb, C.2.2.1, C.2.2.2.1, C.2.2.2.2.1⟩ (g_PB_isFunction l G k h0 _ (nI f9) ca cr cu cne cs cb nf it wp) (k_virt (n := 1) C wc_PB_isFunction rfl rfl wz_PB wm_PB_63 wn_PB_isFunction ws_PB_isFunction (by decide +kernel) ⟨(Nat.le_of_ble_eq_true rfl), (Nat.le_of_ble_eq_true rfl)⟩) (pr_nowV K S [0] (by decide) rfl 0 rfl rfl) rfl rfl hl.1 rfl (lv_room (Nat.le_of_ble_eq_true rfl)) d_PB_cut_2 ⟨(Nat.le_of_ble_eq_true rfl), (Nat.le_of_ble_eq_true rfl)⟩) (fun r3 u1 H locs hw2 S => ?_)
  have S : Sw G A s.heap _ _ [(ca, .inl (k 3, 4, .inr (.inr (.inr (.inr (fun g => some (ad g 0))))))), ((ad 0 0), .inr (4, [.ref (ad 0 1), .ref (ad 0 2), .ref (ad 0 3), .ref (ad 0 4), .ref (ad 0 5), .ref (ad 0 6), .int (nI (tk 0)), .int (nI (ct 0)), .int (nI (no 0))])), ((ad 1 0), .inr (4, [.ref (ad 1 1), .ref (ad 1 2), .ref (ad 1 3), .ref (ad 1 4), .ref (ad 1 5), .ref (ad 1 6), .int (nI (tk 1)), .int (nI (ct 1)), .int (nI (no 1))])), ((ad 2 0), .inr (4, [.ref (ad 2 1), .ref (ad 2 2), .ref (ad 2 3), .ref (ad 2 4), .ref (ad 2 5), .ref (ad 2 6), .int (nI (tk 2)), .int (nI (ct 2)), .int (nI (no 2))])), ((ad 3 0), .inr (4, [.ref (ad 3 1), .ref (ad 3 2), .ref (ad 3 3), .ref (ad 3 4), .ref (ad 3 5), .ref (ad 3 6), .int (nI (tk 3)), .int (nI (ct 3)), .int (nI (no 3))])), (h0, .inr (0, [.ref ca, .ref cr, .ref cu, .ref cne, .ref cs, .ref cb, .int (nI nf), .int wp, .int (nI it)]))] := S
  obtain ⟨hw20, hp4⟩ := hw2
  obtain rfl : r3 = isF (nI nf) (nI f9) := hw20
  rw [isF_lt hf hnf]
  refine lv_if_eq (tgt := 25) hx hb d_PB_cut_5 (by decide) (fun hq => absurd hq (by decide)) (fun _ => ?_)
  refine lv_iload_n hx hb d_PB_cut_8 rfl (lv_at hl 2 rfl) ?_
  refine lv_if_lt (tgt := 25) hx hb d_PB_cut_9 (by decide) (fun hc5 => ?_) (fun hc5 => ?_)
  · refine lv_iconst (v := 0) hx hb d_PB_cut_25 (by decide) ?_
    exact r_iret C K rfl () ⟨rfl, trivial⟩ (S.sub [5, 0, 1, 2, 3, 4] (by decide) rfl) d_PB_cut_26 (Nat.le_of_ble_eq_true rfl) (Nat.le_of_ble_eq_true rfl)
  · refine lv_iload_n hx hb d_PB_cut_12 rfl (lv_at hl 2 rfl) ?_
    refine lv_aload_n hx hb d_PB_cut_13 rfl (lv_at hl 0 rfl) ?_
    refine r_get C K S 5 rfl rfl clOk_PB 0 (by decide) wf_PB_11 (v := .ref ca) rfl d_PB_cut_14 ?_
    refine lv_iload_n hx hb d_PB_cut_17 rfl (lv_at hl 1 rfl) ?_
    refine r_aald C K S 0 3 rfl rfl (i := nI f9) (show vp_in (nI f9) _ from vp_in_nI (n := f9) (by omega) (by decide)) (b := (ad f9 0)) (by rw [nI_clamp (by omega)]) d_PB_cut_18 ?_
    obtain ⟨g1, g2, g3, hpm⟩ := pm4_of (f := f9) (by omega)
    have S : Sw G A s.heap _ _ [(ca, .inl (k 3, 4, .inr (.inr (.inr (.inr (fun g => some (ad g 0))))))), (h0, .inr (0, [.ref ca, .ref cr, .ref cu, .ref cne, .ref cs, .ref cb, .int (nI nf), .int wp, .int (nI it)])), ((ad f9 0), .inr (4, [.ref (ad f9 1), .ref (ad f9 2), .ref (ad f9 3), .ref (ad f9 4), .ref (ad f9 5), .ref (ad f9 6), .int (nI (tk f9)), .int (nI (ct f9)), .int (nI (no f9))])), ((ad g1 0), .inr (4, [.ref (ad g1 1), .ref (ad g1 2), .ref (ad g1 3), .ref (ad g1 4), .ref (ad g1 5), .ref (ad g1 6), .int (nI (tk g1)), .int (nI (ct g1)), .int (nI (no g1))])), ((ad g2 0), .inr (4, [.ref (ad g2 1), .ref (ad g2 2), .ref (ad g2 3), .ref (ad g2 4), .ref (ad g2 5), .ref (ad g2 6), .int (nI (tk g2)), .int (nI (ct g2)), .int (nI (no g2))])), ((ad g3 0), .inr (4, [.ref (ad g3 1), .ref (ad g3 2), .ref (ad g3 3), .ref (ad g3 4), .ref (ad g3 5), .ref (ad g3 6), .int (nI (tk g3)), .int (nI (ct g3)), .int (nI (no g3))]))] := S.sub4 (by
      rcases hpm with ⟨h1, h2, h3, h4⟩ | ⟨h1, h2, h3, h4⟩ | ⟨h1, h2, h3, h4⟩ | ⟨h1, h2, h3, h4⟩ <;> subst h1 <;> subst h2 <;> subst h3 <;> subst h4
      · exact ⟨[0, 5, 1, 2, 3, 4], by decide, rfl⟩
      · exact ⟨[0, 5, 2, 1, 3, 4], by decide, rfl⟩
      · exact ⟨[0, 5, 3, 1, 2, 4], by decide, rfl⟩
      · exact ⟨[0, 5, 4, 1, 2, 3], by decide, rfl⟩)
    refine r_getN C K S 2 rfl rfl clOk_Bo 7 (by decide) xf_PB_67 (v := .int (nI (ct f9))) rfl d_PB_cut_19 ?_
    refine lv_icmp_le (tgt := 27) hx hb d_PB_cut_22 (by decide) (fun hq => absurd hq (hn.resolve_left hc5)) (fun _ => ?_)
    refine lv_iconst (v := 0) hx hb d_PB_cut_25 (by decide) ?_
    have S : Sw G A s.heap _ _ [(h0, .inr (0, [.ref ca, .ref cr, .ref cu, .ref cne, .ref cs, .ref cb, .int (nI nf), .int wp, .int (nI it)])), (ca, .inl (k 3, 4, .inr (.inr (.inr (.inr (fun g => some (ad g 0))))))), ((ad 0 0), .inr (4, [.ref (ad 0 1), .ref (ad 0 2), .ref (ad 0 3), .ref (ad 0 4), .ref (ad 0 5), .ref (ad 0 6), .int (nI (tk 0)), .int (nI (ct 0)), .int (nI (no 0))])), ((ad 1 0), .inr (4, [.ref (ad 1 1), .ref (ad 1 2), .ref (ad 1 3), .ref (ad 1 4), .ref (ad 1 5), .ref (ad 1 6), .int (nI (tk 1)), .int (nI (ct 1)), .int (nI (no 1))])), ((ad 2 0), .inr (4, [.ref (ad 2 1), .ref (ad 2 2), .ref (ad 2 3), .ref (ad 2 4), .ref (ad 2 5), .ref (ad 2 6), .int (nI (tk 2)), .int (nI (ct 2)), .int (nI (no 2))])), ((ad 3 0), .inr (4, [.ref (ad 3 1), .ref (ad 3 2), .ref (ad 3 3), .ref (ad 3 4), .ref (ad 3 5), .ref (ad 3 6), .int (nI (tk 3)), .int (nI (ct 3)), .int (nI (no 3))]))] := S.sub4 (by
      rcases hpm with ⟨h1, h2, h3, h4⟩ | ⟨h1, h2, h3, h4⟩ | ⟨h1, h2, h3, h4⟩ | ⟨h1, h2, h3, h4⟩ <;> subst h1 <;> subst h2 <;> subst h3 <;> subst h4
      · exact ⟨[1, 0, 2, 3, 4, 5], by decide, rfl⟩
      · exact ⟨[1, 0, 3, 2, 4, 5], by decide, rfl⟩
      · exact ⟨[1, 0, 3, 4, 2, 5], by decide, rfl⟩
      · exact ⟨[1, 0, 3, 4, 5, 2], by decide, rfl⟩)
    exact r_iret C K rfl () ⟨rfl, trivial⟩ (S.sub [0, 1, 2, 3, 4, 5] (by decide) rfl) d_PB_cut_26 (Nat.le_of_ble_eq_true rfl) (Nat.le_of_ble_eq_true rfl)
set_option maxRecDepth 100000 in
set_option maxHeartbeats 16000000 in
/-- cut -/
theorem g_PB_cut_ok (l : Launch) (G : va_G) (k : Nat → ClassId) (h0 : Nat) (s0 : Nat) (f9 : Nat) (n9 : Nat) (ca : Nat) (cr : Nat) (cu : Nat) (cne : Nat) (cs : Nat) (cb : Nat) (nf : Nat) (it : Nat) (wp : Int32) (ad : Nat → Nat → Nat) (wd : Nat → Int32) (tk : Nat → Nat) (ct : Nat → Nat) (no : Nat → Nat) (ta : Nat → Nat → Nat → Nat) (hf : f9 < nf) (hnf : nf ≤ 4) (hn : n9 ≤ ct f9) (hc : ct f9 ≤ 200) : CI l y_PB_cut c_PB_cut 3 .boolean { frames := 1, cells := 0, slots := 0, locals := 21 } [.ref h0, .int (nI f9), .int (nI n9)] G k s0 [(h0, .inr (0, [.ref ca, .ref cr, .ref cu, .ref cne, .ref cs, .ref cb, .int (nI nf), .int wp, .int (nI it)])), (ca, .inl (k 3, 4, .inr (.inr (.inr (.inr (fun g => some (ad g 0))))))), ((ad 0 0), .inr (4, [.ref (ad 0 1), .ref (ad 0 2), .ref (ad 0 3), .ref (ad 0 4), .ref (ad 0 5), .ref (ad 0 6), .int (nI (tk 0)), .int (nI (ct 0)), .int (nI (no 0))])), ((ad 1 0), .inr (4, [.ref (ad 1 1), .ref (ad 1 2), .ref (ad 1 3), .ref (ad 1 4), .ref (ad 1 5), .ref (ad 1 6), .int (nI (tk 1)), .int (nI (ct 1)), .int (nI (no 1))])), ((ad 2 0), .inr (4, [.ref (ad 2 1), .ref (ad 2 2), .ref (ad 2 3), .ref (ad 2 4), .ref (ad 2 5), .ref (ad 2 6), .int (nI (tk 2)), .int (nI (ct 2)), .int (nI (no 2))])), ((ad 3 0), .inr (4, [.ref (ad 3 1), .ref (ad 3 2), .ref (ad 3 3), .ref (ad 3 4), .ref (ad 3 5), .ref (ad 3 6), .int (nI (tk 3)), .int (nI (ct 3)), .int (nI (no 3))]))] (fun (r : Int32) (u : Unit) => r = 1 ∧ True) (fun u => [(h0, .inr (0, [.ref ca, .ref cr, .ref cu, .ref cne, .ref cs, .ref cb, .int (nI nf), .int wp, .int (nI it)])), (ca, .inl (k 3, 4, .inr (.inr (.inr (.inr (fun g => some (ad g 0))))))), ((ad 0 0), .inr (4, [.ref (ad 0 1), .ref (ad 0 2), .ref (ad 0 3), .ref (ad 0 4), .ref (ad 0 5), .ref (ad 0 6), .int (nI (tk 0)), .int (nI ((va_up ct f9 n9) 0)), .int (nI (no 0))])), ((ad 1 0), .inr (4, [.ref (ad 1 1), .ref (ad 1 2), .ref (ad 1 3), .ref (ad 1 4), .ref (ad 1 5), .ref (ad 1 6), .int (nI (tk 1)), .int (nI ((va_up ct f9 n9) 1)), .int (nI (no 1))])), ((ad 2 0), .inr (4, [.ref (ad 2 1), .ref (ad 2 2), .ref (ad 2 3), .ref (ad 2 4), .ref (ad 2 5), .ref (ad 2 6), .int (nI (tk 2)), .int (nI ((va_up ct f9 n9) 2)), .int (nI (no 2))])), ((ad 3 0), .inr (4, [.ref (ad 3 1), .ref (ad 3 2), .ref (ad 3 3), .ref (ad 3 4), .ref (ad 3 5), .ref (ad 3 6), .int (nI (tk 3)), .int (nI ((va_up ct f9 n9) 3)), .int (nI (no 3))]))]) 0 0 := by
  refine met_start (by decide) (Nat.le_of_ble_eq_true rfl) ?_
  intro p e s m below meth c C K hA hsz S ls hl
  generalize va_A [(h0, .inr (0, [.ref ca, .ref cr, .ref cu, .ref cne, .ref cs, .ref cb, .int (nI nf), .int wp, .int (nI it)])), (ca, .inl (k 3, 4, .inr (.inr (.inr (.inr (fun g => some (ad g 0))))))), ((ad 0 0), .inr (4, [.ref (ad 0 1), .ref (ad 0 2), .ref (ad 0 3), .ref (ad 0 4), .ref (ad 0 5), .ref (ad 0 6), .int (nI (tk 0)), .int (nI (ct 0)), .int (nI (no 0))])), ((ad 1 0), .inr (4, [.ref (ad 1 1), .ref (ad 1 2), .ref (ad 1 3), .ref (ad 1 4), .ref (ad 1 5), .ref (ad 1 6), .int (nI (tk 1)), .int (nI (ct 1)), .int (nI (no 1))])), ((ad 2 0), .inr (4, [.ref (ad 2 1), .ref (ad 2 2), .ref (ad 2 3), .ref (ad 2 4), .ref (ad 2 5), .ref (ad 2 6), .int (nI (tk 2)), .int (nI (ct 2)), .int (nI (no 2))])), ((ad 3 0), .inr (4, [.ref (ad 3 1), .ref (ad 3 2), .ref (ad 3 3), .ref (ad 3 4), .ref (ad 3 5), .ref (ad 3 6), .int (nI (tk 3)), .int (nI (ct 3)), .int (nI (no 3))]))] s0 = A at hA S ⊢
  have hx := C.1
  have hb := C.2.1
  have hl : lv_has ls 3 [(0, .ref h0), (1, .int (nI f9)), (2, .int (nI n9))] := hl
  refine lv_aload_n hx hb d_PB_cut_0 rfl (lv_at hl 0 rfl) ?_
  refine lv_iload_n hx hb d_PB_cut_1 rfl (lv_at hl 1 rfl) ?_
  refine r_backi (wi := [(h0, .inr (0, [.ref ca, .ref cr, .ref cu, .ref cne, .ref cs, .ref cb, .int (nI nf), .int wp, .int (nI it)]))]) (wr := [(ca, .inl (k 3, 4, .inr (.inr (.inr (.inr (fun g => some (ad g 0))))))), ((ad 0 0), .inr (4, [.ref (ad 0 1), .ref (ad 0 2), .ref (ad 0 3), .ref (ad 0 4), .ref (ad 0 5), .ref (ad 0 6), .int (nI (tk 0)), .int (nI (ct 0)), .int (nI (no 0))])), ((ad 1 0), .inr (4, [.ref (ad 1 1), .ref (ad 1 2), .ref (ad 1 3), .ref (ad 1 4), .ref (ad 1 5), .ref (ad 1 6), .int (nI (tk 1)), .int (nI (ct 1)), .int (nI (no 1))])), ((ad 2 0), .inr (4, [.ref (ad 2 1), .ref (ad 2 2), .ref (ad 2 3), .ref (ad 2 4), .ref (ad 2 5), .ref (ad 2 6), .int (nI (tk 2)), .int (nI (ct 2)), .int (nI (no 2))])), ((ad 3 0), .inr (4, [.ref (ad 3 1), .ref (ad 3 2), .ref (ad 3 3), .ref (ad 3 4), .ref (ad 3 5), .ref (ad 3 6), .int (nI (tk 3)), .int (nI (ct 3)), .int (nI (no 3))]))]) S hA [0] [1, 2, 3, 4, 5] rfl rfl (by decide) (by decide) (va_runV (As := [.int (nI f9)]) (rest := []) ⟨hx, hb, C.2.2.1, C.2.2.2.1, C.2.2.2.2.1⟩ (g_PB_isFunction l G k h0 _ (nI f9) ca cr cu cne cs cb nf it wp) (k_virt (n := 1) C wc_PB_isFunction rfl rfl wz_PB wm_PB_63 wn_PB_isFunction ws_PB_isFunction (by decide +kernel) ⟨(Nat.le_of_ble_eq_true rfl), (Nat.le_of_ble_eq_true rfl)⟩) (pr_nowV K S [0] (by decide) rfl 0 rfl rfl) rfl rfl hl.1 rfl (lv_room (Nat.le_of_ble_eq_true rfl)) d_PB_cut_2 ⟨(Nat.le_of_ble_eq_true rfl), (Nat.le_of_ble_eq_true rfl)⟩) (fun r3 u1 H locs hw2 S => ?_)
  have S : Sw G A s.heap _ _ [(ca, .inl (k 3, 4, .inr (.inr (.inr (.inr (fun g => some (ad g 0))))))), ((ad 0 0), .inr (4, [.ref (ad 0 1), .ref (ad 0 2), .ref (ad 0 3), .ref (ad 0 4), .ref (ad 0 5), .ref (ad 0 6), .int (nI (tk 0)), .int (nI (ct 0)), .int (nI (no 0))])), ((ad 1 0), .inr (4, [.ref (ad 1 1), .ref (ad 1 2), .ref (ad 1 3), .ref (ad 1 4), .ref (ad 1 5), .ref (ad 1 6), .int (nI (tk 1)), .int (nI (ct 1)), .int (nI (no 1))])), ((ad 2 0), .inr (4, [.ref (ad 2 1), .ref (ad 2 2), .ref (ad 2 3), .ref (ad 2 4), .ref (ad 2 5), .ref (ad 2 6), .int (nI (tk 2)), .int (nI (ct 2)), .int (nI (no 2))])), ((ad 3 0), .inr (4, [.ref (ad 3 1), .ref (ad 3 2), .ref (ad 3 3), .ref (ad 3 4), .ref (ad 3 5), .ref (ad 3 6), .int (nI (tk 3)), .int (nI (ct 3)), .int (nI (no 3))])), (h0, .inr (0, [.ref ca, .ref cr, .ref cu, .ref cne, .ref cs, .ref cb, .int (nI nf), .int wp, .int (nI it)]))] := S
  obtain ⟨hw20, hp4⟩ := hw2
  obtain rfl : r3 = isF (nI nf) (nI f9) := hw20
  rw [isF_lt hf hnf]
  refine lv_if_eq (tgt := 25) hx hb d_PB_cut_5 (by decide) (fun hq => absurd hq (by decide)) (fun _ => ?_)
  refine lv_iload_n hx hb d_PB_cut_8 rfl (lv_at hl 2 rfl) ?_
  refine z_if_lt (a := n9) (tgt := 25) hx hb d_PB_cut_9 (by decide) (by omega) ?_
  refine lv_iload_n hx hb d_PB_cut_12 rfl (lv_at hl 2 rfl) ?_
  refine lv_aload_n hx hb d_PB_cut_13 rfl (lv_at hl 0 rfl) ?_
  refine r_get C K S 5 rfl rfl clOk_PB 0 (by decide) wf_PB_11 (v := .ref ca) rfl d_PB_cut_14 ?_
  refine lv_iload_n hx hb d_PB_cut_17 rfl (lv_at hl 1 rfl) ?_
  refine r_aald C K S 0 3 rfl rfl (i := nI f9) (show vp_in (nI f9) _ from vp_in_nI (n := f9) (by omega) (by decide)) (b := (ad f9 0)) (by rw [nI_clamp (by omega)]) d_PB_cut_18 ?_
  obtain ⟨g1, g2, g3, hpm⟩ := pm4_of (f := f9) (by omega)
  have S : Sw G A s.heap _ _ [(ca, .inl (k 3, 4, .inr (.inr (.inr (.inr (fun g => some (ad g 0))))))), (h0, .inr (0, [.ref ca, .ref cr, .ref cu, .ref cne, .ref cs, .ref cb, .int (nI nf), .int wp, .int (nI it)])), ((ad f9 0), .inr (4, [.ref (ad f9 1), .ref (ad f9 2), .ref (ad f9 3), .ref (ad f9 4), .ref (ad f9 5), .ref (ad f9 6), .int (nI (tk f9)), .int (nI (ct f9)), .int (nI (no f9))])), ((ad g1 0), .inr (4, [.ref (ad g1 1), .ref (ad g1 2), .ref (ad g1 3), .ref (ad g1 4), .ref (ad g1 5), .ref (ad g1 6), .int (nI (tk g1)), .int (nI (ct g1)), .int (nI (no g1))])), ((ad g2 0), .inr (4, [.ref (ad g2 1), .ref (ad g2 2), .ref (ad g2 3), .ref (ad g2 4), .ref (ad g2 5), .ref (ad g2 6), .int (nI (tk g2)), .int (nI (ct g2)), .int (nI (no g2))])), ((ad g3 0), .inr (4, [.ref (ad g3 1), .ref (ad g3 2), .ref (ad g3 3), .ref (ad g3 4), .ref (ad g3 5), .ref (ad g3 6), .int (nI (tk g3)), .int (nI (ct g3)), .int (nI (no g3))]))] := S.sub4 (by
    rcases hpm with ⟨h1, h2, h3, h4⟩ | ⟨h1, h2, h3, h4⟩ | ⟨h1, h2, h3, h4⟩ | ⟨h1, h2, h3, h4⟩ <;> subst h1 <;> subst h2 <;> subst h3 <;> subst h4
    · exact ⟨[0, 5, 1, 2, 3, 4], by decide, rfl⟩
    · exact ⟨[0, 5, 2, 1, 3, 4], by decide, rfl⟩
    · exact ⟨[0, 5, 3, 1, 2, 4], by decide, rfl⟩
    · exact ⟨[0, 5, 4, 1, 2, 3], by decide, rfl⟩)
  refine r_getN C K S 2 rfl rfl clOk_Bo 7 (by decide) xf_PB_67 (v := .int (nI (ct f9))) rfl d_PB_cut_19 ?_
  refine z_icmp_le (a := n9) (b := (ct f9)) (tgt := 27) hx hb d_PB_cut_22 (by decide) (by omega) (by omega) (fun hc5 => ?_) (fun hc5 => False.elim (by omega))
  refine lv_aload_n hx hb d_PB_cut_27 rfl (lv_at hl 0 rfl) ?_
  refine r_get C K S 1 rfl rfl clOk_PB 0 (by decide) wf_PB_11 (v := .ref ca) rfl d_PB_cut_28 ?_
  refine lv_iload_n hx hb d_PB_cut_31 rfl (lv_at hl 1 rfl) ?_
  refine r_aald C K S 0 3 rfl rfl (i := nI f9) (show vp_in (nI f9) _ from vp_in_nI (n := f9) (by omega) (by decide)) (b := (ad f9 0)) (by rw [nI_clamp (by omega)]) d_PB_cut_32 ?_
  refine lv_iload_n hx hb d_PB_cut_33 rfl (lv_at hl 2 rfl) ?_
  refine r_putN C K S 2 rfl rfl clOk_Bo 7 (by decide) xf_PB_67 rfl (ty := .int) (v := .int (nI n9)) (by decide +kernel) rfl rfl (Nat.le_of_ble_eq_true rfl) (fs' := [.ref (ad f9 1), .ref (ad f9 2), .ref (ad f9 3), .ref (ad f9 4), .ref (ad f9 5), .ref (ad f9 6), .int (nI (tk f9)), .int (nI n9), .int (nI (no f9))]) (ws' := [(ca, .inl (k 3, 4, .inr (.inr (.inr (.inr (fun g => some (ad g 0))))))), (h0, .inr (0, [.ref ca, .ref cr, .ref cu, .ref cne, .ref cs, .ref cb, .int (nI nf), .int wp, .int (nI it)])), ((ad f9 0), .inr (4, [.ref (ad f9 1), .ref (ad f9 2), .ref (ad f9 3), .ref (ad f9 4), .ref (ad f9 5), .ref (ad f9 6), .int (nI (tk f9)), .int (nI n9), .int (nI (no f9))])), ((ad g1 0), .inr (4, [.ref (ad g1 1), .ref (ad g1 2), .ref (ad g1 3), .ref (ad g1 4), .ref (ad g1 5), .ref (ad g1 6), .int (nI (tk g1)), .int (nI (ct g1)), .int (nI (no g1))])), ((ad g2 0), .inr (4, [.ref (ad g2 1), .ref (ad g2 2), .ref (ad g2 3), .ref (ad g2 4), .ref (ad g2 5), .ref (ad g2 6), .int (nI (tk g2)), .int (nI (ct g2)), .int (nI (no g2))])), ((ad g3 0), .inr (4, [.ref (ad g3 1), .ref (ad g3 2), .ref (ad g3 3), .ref (ad g3 4), .ref (ad g3 5), .ref (ad g3 6), .int (nI (tk g3)), .int (nI (ct g3)), .int (nI (no g3))]))]) rfl rfl d_PB_cut_34 (fun H locs S => ?_)
  refine lv_iconst (v := 1) hx hb d_PB_cut_37 (by decide) ?_
  have S : Sw G A s.heap _ _ [(h0, .inr (0, [.ref ca, .ref cr, .ref cu, .ref cne, .ref cs, .ref cb, .int (nI nf), .int wp, .int (nI it)])), (ca, .inl (k 3, 4, .inr (.inr (.inr (.inr (fun g => some (ad g 0))))))), ((ad 0 0), .inr (4, [.ref (ad 0 1), .ref (ad 0 2), .ref (ad 0 3), .ref (ad 0 4), .ref (ad 0 5), .ref (ad 0 6), .int (nI (tk 0)), .int (nI ((va_up ct f9 n9) 0)), .int (nI (no 0))])), ((ad 1 0), .inr (4, [.ref (ad 1 1), .ref (ad 1 2), .ref (ad 1 3), .ref (ad 1 4), .ref (ad 1 5), .ref (ad 1 6), .int (nI (tk 1)), .int (nI ((va_up ct f9 n9) 1)), .int (nI (no 1))])), ((ad 2 0), .inr (4, [.ref (ad 2 1), .ref (ad 2 2), .ref (ad 2 3), .ref (ad 2 4), .ref (ad 2 5), .ref (ad 2 6), .int (nI (tk 2)), .int (nI ((va_up ct f9 n9) 2)), .int (nI (no 2))])), ((ad 3 0), .inr (4, [.ref (ad 3 1), .ref (ad 3 2), .ref (ad 3 3), .ref (ad 3 4), .ref (ad 3 5), .ref (ad 3 6), .int (nI (tk 3)), .int (nI ((va_up ct f9 n9) 3)), .int (nI (no 3))]))] := S.sub4 (by
    rcases hpm with ⟨h1, h2, h3, h4⟩ | ⟨h1, h2, h3, h4⟩ | ⟨h1, h2, h3, h4⟩ | ⟨h1, h2, h3, h4⟩ <;> subst h1 <;> subst h2 <;> subst h3 <;> subst h4
    · exact ⟨[1, 0, 2, 3, 4, 5], by decide, rfl⟩
    · exact ⟨[1, 0, 3, 2, 4, 5], by decide, rfl⟩
    · exact ⟨[1, 0, 3, 4, 2, 5], by decide, rfl⟩
    · exact ⟨[1, 0, 3, 4, 5, 2], by decide, rfl⟩)
  exact r_iret C K rfl () ⟨rfl, trivial⟩ (S.sub [0, 1, 2, 3, 4, 5] (by decide) rfl) d_PB_cut_38 (Nat.le_of_ble_eq_true rfl) (Nat.le_of_ble_eq_true rfl)
