section ROWS4
variable {p : Program} {l : Launch} {e : Env} {R : Room} {s : State} {m : MethodId} {args : Array Value} {below : List Frame} {meth : Method} {c : Code} {H : Heap} {locs : List Loc} {cells slots : Nat} {Q : State → Prop}
variable {cc : ByteArray} {own nm : String} {nL : Nat} {ret : Option FieldType} {G : va_G} {k : Nat → ClassId} {A : Nat → Prop} {ws : va_W} {pc : Nat} {ls : Array Slot} {rest : List Value} {a : Nat}
theorem r_zast (C : Cx p s m args meth c cc own nL ret nm) (K : Kn G k s) (S : Sw G A s.heap H locs ws) (q0 : Nat) {n : Nat} {f : Nat → Int32} (ha : ws[q0]? = some (a, .inl (k 2, n, .inl f))) {i x : Int32} (hin : vp_in i n) {f' : Nat → Int32} {ws' : va_W} (h1 : upd f i.toNatClampNeg (vp_nar .boolean x) = f') (h2 : ws.set q0 (a, .inl (k 2, n, .inl f')) = ws') (hdg : decode cc pc = .ok (.bastore, 1))
    (kk : ∀ (H1 : Heap) (locs1 : List Loc), Sw G A s.heap H1 locs1 ws' → W p l e R s m args below meth c H1 locs1 cells slots Q (F0 m (pc + 1) ls rest)) : W p l e R s m args below meth c H locs cells slots Q (F0 m pc ls (.int x :: .int i :: .ref a :: rest)) := by
  subst h1; subst h2
  exact va_zast C.1 C.2.1 K.1 S.1 S.2.1 S.2.2 q0 2 ha rfl hin hdg (fun H1 l1 a1 a2 a3 => kk H1 l1 ⟨a1, a2, a3⟩)
end ROWS4
theorem upd_Z (g : Nat → Nat) {j v : Nat} (hj : j < 2 ^ 31) (hv : v ≤ 1) : upd (fun i => nI (g i)) (nI j).toNatClampNeg (vp_nar .boolean (nI v)) = fun i => nI (va_up g j v i) := by
  have e : vp_nar .boolean (nI v) = nI v := by
    rcases (show v = 0 ∨ v = 1 by omega) with rfl | rfl <;> rfl
  rw [e]
  exact upd_nI g hj v
/-- the sign of a number; the number turned -/
def sgN (n b : Nat) : Int32 := if n = 0 then 0 else if b = 0 then 1 else -1
def tnB (n b : Nat) : Nat := if n = 0 then 0 else if b = 0 then 1 else 0
theorem d_Mo_signOf_0 : decode c_Mo_signOf 0 = .ok (.aload_n 0, 1) := by decide +kernel
theorem d_Mo_signOf_1 : decode c_Mo_signOf 1 = .ok (.getfield 86, 3) := by decide +kernel
theorem d_Mo_signOf_4 : decode c_Mo_signOf 4 = .ok (.iload_n 1, 1) := by decide +kernel
theorem d_Mo_signOf_5 : decode c_Mo_signOf 5 = .ok (.iaload, 1) := by decide +kernel
theorem d_Mo_signOf_6 : decode c_Mo_signOf 6 = .ok (.ifCond .ne 7, 3) := by decide +kernel
theorem d_Mo_signOf_9 : decode c_Mo_signOf 9 = .ok (.iconst 0, 1) := by decide +kernel
theorem d_Mo_signOf_10 : decode c_Mo_signOf 10 = .ok (.goto 17, 3) := by decide +kernel
theorem d_Mo_signOf_13 : decode c_Mo_signOf 13 = .ok (.aload_n 0, 1) := by decide +kernel
theorem d_Mo_signOf_14 : decode c_Mo_signOf 14 = .ok (.getfield 89, 3) := by decide +kernel
theorem d_Mo_signOf_17 : decode c_Mo_signOf 17 = .ok (.iload_n 1, 1) := by decide +kernel
theorem d_Mo_signOf_18 : decode c_Mo_signOf 18 = .ok (.baload, 1) := by decide +kernel
theorem d_Mo_signOf_19 : decode c_Mo_signOf 19 = .ok (.ifCond .eq 7, 3) := by decide +kernel
theorem d_Mo_signOf_22 : decode c_Mo_signOf 22 = .ok (.iconst (-1), 1) := by decide +kernel
theorem d_Mo_signOf_23 : decode c_Mo_signOf 23 = .ok (.goto 4, 3) := by decide +kernel
theorem d_Mo_signOf_26 : decode c_Mo_signOf 26 = .ok (.iconst 1, 1) := by decide +kernel
theorem d_Mo_signOf_27 : decode c_Mo_signOf 27 = .ok (.ireturn, 1) := by decide +kernel
set_option maxRecDepth 100000 in
set_option maxHeartbeats 4000000 in
/-- signOf(c) -/
theorem g_Mo_signOf (l : Launch) (G : va_G) (k : Nat → ClassId) (h0 s0 : Nat) (ma : Nat → Nat) (iv : Nat → Int32) (co : Int64) (sz bl : Nat → Nat) (c9 : Nat) (kc : c9 < 3998) (sc : sz c9 ≤ 80) (bc : bl c9 ≤ 1) : CI l y_Mo_signOf c_Mo_signOf 2 .int { frames := 1, cells := 0, slots := 0, locals := 20 } [.ref h0, .int (nI c9)] G k s0 [(h0, .inr (8, moL ma iv co)), ((ma 22), .inl (k 0, 3998, .inl (fun i => nI (sz i)))), ((ma 23), .inl (k 2, 3998, .inl (fun i => nI (bl i))))] (fun (r : Int32) (u : Unit) => r = sgN (sz c9) (bl c9)) (fun u => [(h0, .inr (8, moL ma iv co)), ((ma 22), .inl (k 0, 3998, .inl (fun i => nI (sz i)))), ((ma 23), .inl (k 2, 3998, .inl (fun i => nI (bl i))))]) 0 0 := by
  refine met_start (by decide) (Nat.le_of_ble_eq_true rfl) ?_
  intro p e s m below meth c C K hA hsz S ls hl
  generalize va_A [(h0, .inr (8, moL ma iv co)), ((ma 22), .inl (k 0, 3998, .inl (fun i => nI (sz i)))), ((ma 23), .inl (k 2, 3998, .inl (fun i => nI (bl i))))] s0 = A at hA S ⊢
  have hx := C.1
  have hb := C.2.1
  have hl : lv_has ls 2 [(0, .ref h0), (1, .int (nI c9))] := hl
  refine lv_aload_n hx hb d_Mo_signOf_0 rfl (lv_at hl 0 rfl) ?_
  refine r_get C K S 0 rfl rfl clOk_Mo 42 (by decide) wf_Mo_86 (v := .ref (ma 22)) rfl d_Mo_signOf_1 ?_
  refine lv_iload_n hx hb d_Mo_signOf_4 rfl (lv_at hl 1 rfl) ?_
  refine r_iald C K S 1 rfl (i := (nI c9)) (vp_in_nI (by omega) (by decide)) (v := (nI (sz c9))) (by rw [nI_clamp (by omega)]) d_Mo_signOf_5 ?_
  refine lv_if_ne (tgt := 13) hx hb d_Mo_signOf_6 (by decide) (fun hc1 => ?_) (fun hc1 => ?_)
  · refine lv_aload_n hx hb d_Mo_signOf_13 rfl (lv_at hl 0 rfl) ?_
    refine r_get C K S 0 rfl rfl clOk_Mo 43 (by decide) wf_Mo_89 (v := .ref (ma 23)) rfl d_Mo_signOf_14 ?_
    refine lv_iload_n hx hb d_Mo_signOf_17 rfl (lv_at hl 1 rfl) ?_
    refine r_zald C K S 2 rfl (i := (nI c9)) (vp_in_nI (by omega) (by decide)) (v := (nI (bl c9))) (by rw [nI_clamp (by omega)]) d_Mo_signOf_18 ?_
    refine lv_if_eq (tgt := 26) hx hb d_Mo_signOf_19 (by decide) (fun hc2 => ?_) (fun hc2 => ?_)
    · refine lv_iconst (v := 1) hx hb d_Mo_signOf_26 (by decide) ?_
      exact r_iret C K rfl () (by have f0 : ¬ sz c9 = 0 := (fun e9 => hc1 (by rw [e9]; rfl)); have f1 : bl c9 = 0 := ((nI_eq (a := bl c9) (b := 0) (by omega) (by omega)).mp hc2); simp [sgN, f0, f1]) (S.sub [0, 1, 2] (by decide) rfl) d_Mo_signOf_27 (Nat.le_of_ble_eq_true rfl) (Nat.le_of_ble_eq_true rfl)
    · refine lv_iconst (v := (-1)) hx hb d_Mo_signOf_22 (by decide) ?_
      refine lv_goto (tgt := 27) hx hb d_Mo_signOf_23 (by decide) ?_
      exact r_iret C K rfl () (by have f0 : ¬ sz c9 = 0 := (fun e9 => hc1 (by rw [e9]; rfl)); have f1 : ¬ bl c9 = 0 := (fun e9 => hc2 (by rw [e9]; rfl)); simp [sgN, f0, f1]) (S.sub [0, 1, 2] (by decide) rfl) d_Mo_signOf_27 (Nat.le_of_ble_eq_true rfl) (Nat.le_of_ble_eq_true rfl)
  · refine lv_iconst (v := 0) hx hb d_Mo_signOf_9 (by decide) ?_
    refine lv_goto (tgt := 27) hx hb d_Mo_signOf_10 (by decide) ?_
    exact r_iret C K rfl () (by have f0 : sz c9 = 0 := ((nI_eq (a := sz c9) (b := 0) (by omega) (by omega)).mp hc1); simp [sgN, f0]) (S.sub [0, 1, 2] (by decide) rfl) d_Mo_signOf_27 (Nat.le_of_ble_eq_true rfl) (Nat.le_of_ble_eq_true rfl)
theorem d_Mo_turn_0 : decode c_Mo_turn 0 = .ok (.aload_n 0, 1) := by decide +kernel
theorem d_Mo_turn_1 : decode c_Mo_turn 1 = .ok (.getfield 89, 3) := by decide +kernel
theorem d_Mo_turn_4 : decode c_Mo_turn 4 = .ok (.iload_n 1, 1) := by decide +kernel
theorem d_Mo_turn_5 : decode c_Mo_turn 5 = .ok (.aload_n 0, 1) := by decide +kernel
theorem d_Mo_turn_6 : decode c_Mo_turn 6 = .ok (.getfield 86, 3) := by decide +kernel
theorem d_Mo_turn_9 : decode c_Mo_turn 9 = .ok (.iload_n 1, 1) := by decide +kernel
theorem d_Mo_turn_10 : decode c_Mo_turn 10 = .ok (.iaload, 1) := by decide +kernel
theorem d_Mo_turn_11 : decode c_Mo_turn 11 = .ok (.ifCond .le 16, 3) := by decide +kernel
theorem d_Mo_turn_14 : decode c_Mo_turn 14 = .ok (.aload_n 0, 1) := by decide +kernel
theorem d_Mo_turn_15 : decode c_Mo_turn 15 = .ok (.getfield 89, 3) := by decide +kernel
theorem d_Mo_turn_18 : decode c_Mo_turn 18 = .ok (.iload_n 1, 1) := by decide +kernel
theorem d_Mo_turn_19 : decode c_Mo_turn 19 = .ok (.baload, 1) := by decide +kernel
theorem d_Mo_turn_20 : decode c_Mo_turn 20 = .ok (.ifCond .ne 7, 3) := by decide +kernel
theorem d_Mo_turn_23 : decode c_Mo_turn 23 = .ok (.iconst 1, 1) := by decide +kernel
theorem d_Mo_turn_24 : decode c_Mo_turn 24 = .ok (.goto 4, 3) := by decide +kernel
theorem d_Mo_turn_27 : decode c_Mo_turn 27 = .ok (.iconst 0, 1) := by decide +kernel
theorem d_Mo_turn_28 : decode c_Mo_turn 28 = .ok (.bastore, 1) := by decide +kernel
theorem d_Mo_turn_29 : decode c_Mo_turn 29 = .ok (.return_, 1) := by decide +kernel
set_option maxRecDepth 100000 in
set_option maxHeartbeats 4000000 in
/-- turn(c) -/
theorem g_Mo_turn (l : Launch) (G : va_G) (k : Nat → ClassId) (h0 s0 : Nat) (ma : Nat → Nat) (iv : Nat → Int32) (co : Int64) (sz bl : Nat → Nat) (c9 : Nat) (kc : c9 < 3998) (sc : sz c9 ≤ 80) (bc : bl c9 ≤ 1) : CV l y_Mo_turn c_Mo_turn 2 { frames := 1, cells := 0, slots := 0, locals := 20 } [.ref h0, .int (nI c9)] G k s0 [(h0, .inr (8, moL ma iv co)), ((ma 22), .inl (k 0, 3998, .inl (fun i => nI (sz i)))), ((ma 23), .inl (k 2, 3998, .inl (fun i => nI (bl i))))] (fun (u : Nat → Nat) => u = va_up bl c9 (tnB (sz c9) (bl c9))) (fun u => [(h0, .inr (8, moL ma iv co)), ((ma 22), .inl (k 0, 3998, .inl (fun i => nI (sz i)))), ((ma 23), .inl (k 2, 3998, .inl (fun i => nI (u i))))]) 0 0 := by
  refine met_start (by decide) (Nat.le_of_ble_eq_true rfl) ?_
  intro p e s m below meth c C K hA hsz S ls hl
  generalize va_A [(h0, .inr (8, moL ma iv co)), ((ma 22), .inl (k 0, 3998, .inl (fun i => nI (sz i)))), ((ma 23), .inl (k 2, 3998, .inl (fun i => nI (bl i))))] s0 = A at hA S ⊢
  have hx := C.1
  have hb := C.2.1
  have hl : lv_has ls 2 [(0, .ref h0), (1, .int (nI c9))] := hl
  refine lv_aload_n hx hb d_Mo_turn_0 rfl (lv_at hl 0 rfl) ?_
  refine r_get C K S 0 rfl rfl clOk_Mo 43 (by decide) wf_Mo_89 (v := .ref (ma 23)) rfl d_Mo_turn_1 ?_
  refine lv_iload_n hx hb d_Mo_turn_4 rfl (lv_at hl 1 rfl) ?_
  refine lv_aload_n hx hb d_Mo_turn_5 rfl (lv_at hl 0 rfl) ?_
  refine r_get C K S 0 rfl rfl clOk_Mo 42 (by decide) wf_Mo_86 (v := .ref (ma 22)) rfl d_Mo_turn_6 ?_
  refine lv_iload_n hx hb d_Mo_turn_9 rfl (lv_at hl 1 rfl) ?_
  refine r_iald C K S 1 rfl (i := (nI c9)) (vp_in_nI (by omega) (by decide)) (v := (nI (sz c9))) (by rw [nI_clamp (by omega)]) d_Mo_turn_10 ?_
  refine lv_if_le (tgt := 27) hx hb d_Mo_turn_11 (by decide) (fun hc1 => ?_) (fun hc1 => ?_)
  · refine lv_iconst (v := 0) hx hb d_Mo_turn_27 (by decide) ?_
    refine r_zast C K S 2 rfl (i := (nI c9)) (x := 0) (vp_in_nI (by omega) (by decide)) (f' := fun i => nI (va_up bl c9 0 i)) (ws' := [(h0, .inr (8, moL ma iv co)), ((ma 22), .inl (k 0, 3998, .inl (fun i => nI (sz i)))), ((ma 23), .inl (k 2, 3998, .inl (fun i => nI (va_up bl c9 0 i))))]) (upd_Z bl (v := 0) (by omega) (by omega)) rfl d_Mo_turn_28 (fun H locs S => ?_)
    exact r_vret C K (va_up bl c9 0) (by have f0 : sz c9 = 0 := (Nat.le_zero.mp ((nI_leI (a := sz c9) (b := 0) (by omega) (by omega)).mp hc1)); simp [tnB, f0]) (S.sub [0, 1, 2] (by decide) rfl) d_Mo_turn_29 (Nat.le_of_ble_eq_true rfl) (Nat.le_of_ble_eq_true rfl)
  · refine lv_aload_n hx hb d_Mo_turn_14 rfl (lv_at hl 0 rfl) ?_
    refine r_get C K S 0 rfl rfl clOk_Mo 43 (by decide) wf_Mo_89 (v := .ref (ma 23)) rfl d_Mo_turn_15 ?_
    refine lv_iload_n hx hb d_Mo_turn_18 rfl (lv_at hl 1 rfl) ?_
    refine r_zald C K S 2 rfl (i := (nI c9)) (vp_in_nI (by omega) (by decide)) (v := (nI (bl c9))) (by rw [nI_clamp (by omega)]) d_Mo_turn_19 ?_
    refine lv_if_ne (tgt := 27) hx hb d_Mo_turn_20 (by decide) (fun hc2 => ?_) (fun hc2 => ?_)
    · refine lv_iconst (v := 0) hx hb d_Mo_turn_27 (by decide) ?_
      refine r_zast C K S 2 rfl (i := (nI c9)) (x := 0) (vp_in_nI (by omega) (by decide)) (f' := fun i => nI (va_up bl c9 0 i)) (ws' := [(h0, .inr (8, moL ma iv co)), ((ma 22), .inl (k 0, 3998, .inl (fun i => nI (sz i)))), ((ma 23), .inl (k 2, 3998, .inl (fun i => nI (va_up bl c9 0 i))))]) (upd_Z bl (v := 0) (by omega) (by omega)) rfl d_Mo_turn_28 (fun H locs S => ?_)
      exact r_vret C K (va_up bl c9 0) (by have f0 : ¬ sz c9 = 0 := (fun e9 => hc1 (by rw [e9]; decide)); have f1 : ¬ bl c9 = 0 := (fun e9 => hc2 (by rw [e9]; rfl)); simp [tnB, f0, f1]) (S.sub [0, 1, 2] (by decide) rfl) d_Mo_turn_29 (Nat.le_of_ble_eq_true rfl) (Nat.le_of_ble_eq_true rfl)
    · refine lv_iconst (v := 1) hx hb d_Mo_turn_23 (by decide) ?_
      refine lv_goto (tgt := 28) hx hb d_Mo_turn_24 (by decide) ?_
      refine r_zast C K S 2 rfl (i := (nI c9)) (x := 1) (vp_in_nI (by omega) (by decide)) (f' := fun i => nI (va_up bl c9 1 i)) (ws' := [(h0, .inr (8, moL ma iv co)), ((ma 22), .inl (k 0, 3998, .inl (fun i => nI (sz i)))), ((ma 23), .inl (k 2, 3998, .inl (fun i => nI (va_up bl c9 1 i))))]) (upd_Z bl (v := 1) (by omega) (by omega)) rfl d_Mo_turn_28 (fun H locs S => ?_)
      exact r_vret C K (va_up bl c9 1) (by have f0 : ¬ sz c9 = 0 := (fun e9 => hc1 (by rw [e9]; decide)); have f1 : bl c9 = 0 := ((nI_eq (a := bl c9) (b := 0) (by omega) (by omega)).mp hc2); simp [tnB, f0, f1]) (S.sub [0, 1, 2] (by decide) rfl) d_Mo_turn_29 (Nat.le_of_ble_eq_true rfl) (Nat.le_of_ble_eq_true rfl)
