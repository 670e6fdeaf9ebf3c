/-- a line is cleared up to t -/
def lnC (f : Nat → Int64) (to t : Nat) : Nat → Int64 := fun i => if to ≤ i ∧ i < to + t then 0 else f i
theorem lnC_0 (f : Nat → Int64) (to : Nat) : lnC f to 0 = f := by
  funext i
  unfold lnC
  rw [if_neg (by omega)]
theorem lnC_s (f : Nat → Int64) (to t : Nat) : va_up (lnC f to t) (to + t) 0 = lnC f to (t + 1) := by
  funext i
  unfold va_up lnC
  by_cases q : i = to + t
  · rw [if_pos q, if_pos (by omega)]
  · rw [if_neg q]
    by_cases q2 : to ≤ i ∧ i < to + t
    · rw [if_pos q2, if_pos (by omega)]
    · rw [if_neg q2, if_neg (by omega)]
theorem d_Mo_clear_0 : decode c_Mo_clear 0 = .ok (.iconst 0, 1) := by decide +kernel
theorem d_Mo_clear_1 : decode c_Mo_clear 1 = .ok (.istore_n 2, 1) := by decide +kernel
theorem d_Mo_clear_2 : decode c_Mo_clear 2 = .ok (.iload_n 2, 1) := by decide +kernel
theorem d_Mo_clear_3 : decode c_Mo_clear 3 = .ok (.bipush 41, 2) := by decide +kernel
theorem d_Mo_clear_5 : decode c_Mo_clear 5 = .ok (.if_icmp .ge 18, 3) := by decide +kernel
theorem d_Mo_clear_8 : decode c_Mo_clear 8 = .ok (.aload_n 0, 1) := by decide +kernel
theorem d_Mo_clear_9 : decode c_Mo_clear 9 = .ok (.getfield 57, 3) := by decide +kernel
theorem d_Mo_clear_12 : decode c_Mo_clear 12 = .ok (.iload_n 1, 1) := by decide +kernel
theorem d_Mo_clear_13 : decode c_Mo_clear 13 = .ok (.iload_n 2, 1) := by decide +kernel
theorem d_Mo_clear_14 : decode c_Mo_clear 14 = .ok (.iadd, 1) := by decide +kernel
theorem d_Mo_clear_15 : decode c_Mo_clear 15 = .ok (.lconst 0, 1) := by decide +kernel
theorem d_Mo_clear_16 : decode c_Mo_clear 16 = .ok (.lastore, 1) := by decide +kernel
theorem d_Mo_clear_17 : decode c_Mo_clear 17 = .ok (.iinc 2 1, 3) := by decide +kernel
theorem d_Mo_clear_20 : decode c_Mo_clear 20 = .ok (.goto (-18), 3) := by decide +kernel
theorem d_Mo_clear_23 : decode c_Mo_clear 23 = .ok (.return_, 1) := by decide +kernel
set_option maxRecDepth 100000 in
set_option maxHeartbeats 4000000 in
/-- clear(to) -/
theorem g_Mo_clear (l : Launch) (G : va_G) (k : Nat → ClassId) (h0 sz : Nat) (ma : Nat → Nat) (iv : Nat → Int32) (co : Int64) (f : Nat → Int64) (to : Nat) (hto : to + 41 ≤ 36982) : CV l y_Mo_clear c_Mo_clear 3 { frames := 0, cells := 0, slots := 0, locals := 0 } [.ref h0, .int (nI to)] G k sz [(h0, .inr (8, moL ma iv co)), ((ma 13), .inl (k 1, 36982, .inr (.inl f)))] (fun (u : Unit) => True) (fun u => [(h0, .inr (8, moL ma iv co)), ((ma 13), .inl (k 1, 36982, .inr (.inl (lnC f to 41))))]) 0 0 := by
  refine met_start (by decide) (Nat.le_of_ble_eq_true rfl) ?_
  intro p e s m below meth c C K hA hsz S ls hl
  generalize va_A [(h0, .inr (8, moL ma iv co)), ((ma 13), .inl (k 1, 36982, .inr (.inl f)))] sz = A at hA S ⊢
  have hx := C.1
  have hb := C.2.1
  have hl : lv_has ls 3 [(0, .ref h0), (1, .int (nI to))] := hl
  have loop : ∀ d t, t + d = 41 → ∀ (H : Heap) (locs : List Loc), Sw G A s.heap H locs [(h0, .inr (8, moL ma iv co)), ((ma 13), .inl (k 1, 36982, .inr (.inl (lnC f to t))))] → ∀ ls : Array Slot, lv_has ls 3 [(2, .int (nI t)), (0, .ref h0), (1, .int (nI to))] → W p l e { frames := 0, cells := 0, slots := 0, locals := 0 } s m [Value.ref h0, Value.int (nI to)].toArray below meth c H locs 0 0 (MQ below (va_Qv (fun (u : Unit) => True) (Po G k A (fun u => [(h0, .inr (8, moL ma iv co)), ((ma 13), .inl (k 1, 36982, .inr (.inl (lnC f to 41))))])) A) [Value.ref h0, Value.int (nI to)].toArray s 0 0 A) (F0 m 2 ls []) := by
    intro d
    induction d with
    | zero =>
      intro t ht H locs S ls hl
      obtain rfl : t = 41 := by omega
      refine lv_iload_n hx hb d_Mo_clear_2 rfl (lv_at hl 0 rfl) ?_
      refine lv_bipush (v := 41) hx hb d_Mo_clear_3 (by decide) ?_
      refine lv_icmp_ge (tgt := 23) hx hb d_Mo_clear_5 (by decide) (fun _ => ?_) (fun hq => absurd (show (41 : Int32) ≤ nI 41 from by decide) hq)
      exact r_vret C K () trivial S d_Mo_clear_23 (Nat.le_of_ble_eq_true rfl) (Nat.le_of_ble_eq_true rfl)
    | succ d ih =>
      intro t ht H locs S ls hl
      refine lv_iload_n hx hb d_Mo_clear_2 rfl (lv_at hl 0 rfl) ?_
      refine lv_bipush (v := 41) hx hb d_Mo_clear_3 (by decide) ?_
      refine lv_icmp_ge (tgt := 23) hx hb d_Mo_clear_5 (by decide) (fun hq => absurd hq (show ¬ nI 41 ≤ nI t from nI_ge (by omega) (by decide))) (fun _ => ?_)
      refine lv_aload_n hx hb d_Mo_clear_8 rfl (lv_at hl 1 rfl) ?_
      refine r_get C K S 0 rfl rfl clOk_Mo 27 (by decide) wf_Mo_57 (v := .ref (ma 13)) rfl d_Mo_clear_9 ?_
      refine lv_iload_n hx hb d_Mo_clear_12 rfl (lv_at hl 2 rfl) ?_
      refine lv_iload_n hx hb d_Mo_clear_13 rfl (lv_at hl 0 rfl) ?_
      refine lv_iadd hx hb d_Mo_clear_14 ?_
      rw [nI_add]
      refine lv_lconst (v := 0) hx hb d_Mo_clear_15 (by decide) ?_
      refine r_last C K S 1 rfl (i := nI (to + t)) (x := 0) (vp_in_nI (by omega) (by decide)) (f' := lnC f to (t + 1)) (ws' := [(h0, .inr (8, moL ma iv co)), ((ma 13), .inl (k 1, 36982, .inr (.inl (lnC f to (t + 1)))))]) (by rw [vp_updL_eq _ (by omega), lnC_s]) rfl d_Mo_clear_16 (fun H locs S => ?_)
      refine lv_iinc (v := nI (t + 1)) (lv' := [(2, .int (nI (t + 1))), (0, .ref h0), (1, .int (nI to))]) hx hb d_Mo_clear_17 hl (k := 0) rfl (nI_1 t) (by decide) rfl (fun ls hl => ?_)
      refine lv_goto (tgt := 2) hx hb d_Mo_clear_20 (by decide) ?_
      exact ih (t + 1) (by omega) _ _ S ls hl
  refine lv_iconst (v := 0) hx hb d_Mo_clear_0 (by decide) ?_
  refine lv_istore_n (lv' := [(2, .int 0), (0, .ref h0), (1, .int (nI to))]) hx hb d_Mo_clear_1 rfl hl (by decide) rfl (fun ls hl => ?_)
  have S : Sw G A s.heap s.heap [] [(h0, .inr (8, moL ma iv co)), ((ma 13), .inl (k 1, 36982, .inr (.inl (lnC f to 0))))] := by rw [lnC_0]; exact S
  exact loop 41 0 (by omega) _ _ S ls hl
/-- a line is copied up to t, from a line that lies apart -/
def lnP (f : Nat → Int64) (fr to t : Nat) : Nat → Int64 := fun i => if to ≤ i ∧ i < to + t then f (fr + (i - to)) else f i
theorem lnP_0 (f : Nat → Int64) (fr to : Nat) : lnP f fr to 0 = f := by
  funext i
  unfold lnP
  rw [if_neg (by omega)]
theorem lnP_s (f : Nat → Int64) (fr to t : Nat) : va_up (lnP f fr to t) (to + t) (f (fr + t)) = lnP f fr to (t + 1) := by
  funext i
  unfold va_up lnP
  by_cases q : i = to + t
  · rw [if_pos q, if_pos (by omega), q, Nat.add_sub_cancel_left]
  · rw [if_neg q]
    by_cases q2 : to ≤ i ∧ i < to + t
    · rw [if_pos q2, if_pos (by omega)]
    · rw [if_neg q2, if_neg (by omega)]
theorem lnP_far {f : Nat → Int64} {fr to t : Nat} (h : fr + 41 ≤ to ∨ to + 41 ≤ fr) (ht : t < 41) : lnP f fr to t (fr + t) = f (fr + t) := if_neg (by omega)
theorem d_Mo_copy_0 : decode c_Mo_copy 0 = .ok (.iconst 0, 1) := by decide +kernel
theorem d_Mo_copy_1 : decode c_Mo_copy 1 = .ok (.istore_n 3, 1) := by decide +kernel
theorem d_Mo_copy_2 : decode c_Mo_copy 2 = .ok (.iload_n 3, 1) := by decide +kernel
theorem d_Mo_copy_3 : decode c_Mo_copy 3 = .ok (.bipush 41, 2) := by decide +kernel
theorem d_Mo_copy_5 : decode c_Mo_copy 5 = .ok (.if_icmp .ge 25, 3) := by decide +kernel
theorem d_Mo_copy_8 : decode c_Mo_copy 8 = .ok (.aload_n 0, 1) := by decide +kernel
theorem d_Mo_copy_9 : decode c_Mo_copy 9 = .ok (.getfield 57, 3) := by decide +kernel
theorem d_Mo_copy_12 : decode c_Mo_copy 12 = .ok (.iload_n 2, 1) := by decide +kernel
theorem d_Mo_copy_13 : decode c_Mo_copy 13 = .ok (.iload_n 3, 1) := by decide +kernel
theorem d_Mo_copy_14 : decode c_Mo_copy 14 = .ok (.iadd, 1) := by decide +kernel
theorem d_Mo_copy_15 : decode c_Mo_copy 15 = .ok (.aload_n 0, 1) := by decide +kernel
theorem d_Mo_copy_16 : decode c_Mo_copy 16 = .ok (.getfield 57, 3) := by decide +kernel
theorem d_Mo_copy_19 : decode c_Mo_copy 19 = .ok (.iload_n 1, 1) := by decide +kernel
theorem d_Mo_copy_20 : decode c_Mo_copy 20 = .ok (.iload_n 3, 1) := by decide +kernel
theorem d_Mo_copy_21 : decode c_Mo_copy 21 = .ok (.iadd, 1) := by decide +kernel
theorem d_Mo_copy_22 : decode c_Mo_copy 22 = .ok (.laload, 1) := by decide +kernel
theorem d_Mo_copy_23 : decode c_Mo_copy 23 = .ok (.lastore, 1) := by decide +kernel
theorem d_Mo_copy_24 : decode c_Mo_copy 24 = .ok (.iinc 3 1, 3) := by decide +kernel
theorem d_Mo_copy_27 : decode c_Mo_copy 27 = .ok (.goto (-25), 3) := by decide +kernel
theorem d_Mo_copy_30 : decode c_Mo_copy 30 = .ok (.return_, 1) := by decide +kernel
set_option maxRecDepth 100000 in
set_option maxHeartbeats 4000000 in
/-- copy(fr, to) -/
theorem g_Mo_copy (l : Launch) (G : va_G) (k : Nat → ClassId) (h0 sz : Nat) (ma : Nat → Nat) (iv : Nat → Int32) (co : Int64) (f : Nat → Int64) (fr to : Nat) (hto : to + 41 ≤ 36982) (hfr : fr + 41 ≤ 36982) (hne : fr + 41 ≤ to ∨ to + 41 ≤ fr) : CV l y_Mo_copy c_Mo_copy 4 { frames := 0, cells := 0, slots := 0, locals := 0 } [.ref h0, .int (nI fr), .int (nI to)] G k sz [(h0, .inr (8, moL ma iv co)), ((ma 13), .inl (k 1, 36982, .inr (.inl f)))] (fun (u : Unit) => True) (fun u => [(h0, .inr (8, moL ma iv co)), ((ma 13), .inl (k 1, 36982, .inr (.inl (lnP f fr to 41))))]) 0 0 := by
  refine met_start (by decide) (Nat.le_of_ble_eq_true rfl) ?_
  intro p e s m below meth c C K hA hsz S ls hl
  generalize va_A [(h0, .inr (8, moL ma iv co)), ((ma 13), .inl (k 1, 36982, .inr (.inl f)))] sz = A at hA S ⊢
  have hx := C.1
  have hb := C.2.1
  have hl : lv_has ls 4 [(0, .ref h0), (1, .int (nI fr)), (2, .int (nI to))] := hl
  have loop : ∀ d t, t + d = 41 → ∀ (H : Heap) (locs : List Loc), Sw G A s.heap H locs [(h0, .inr (8, moL ma iv co)), ((ma 13), .inl (k 1, 36982, .inr (.inl (lnP f fr to t))))] → ∀ ls : Array Slot, lv_has ls 4 [(3, .int (nI t)), (0, .ref h0), (1, .int (nI fr)), (2, .int (nI to))] → W p l e { frames := 0, cells := 0, slots := 0, locals := 0 } s m [Value.ref h0, Value.int (nI fr), Value.int (nI to)].toArray below meth c H locs 0 0 (MQ below (va_Qv (fun (u : Unit) => True) (Po G k A (fun u => [(h0, .inr (8, moL ma iv co)), ((ma 13), .inl (k 1, 36982, .inr (.inl (lnP f fr to 41))))])) A) [Value.ref h0, Value.int (nI fr), Value.int (nI to)].toArray s 0 0 A) (F0 m 2 ls []) := by
    intro d
    induction d with
    | zero =>
      intro t ht H locs S ls hl
      obtain rfl : t = 41 := by omega
      refine lv_iload_n hx hb d_Mo_copy_2 rfl (lv_at hl 0 rfl) ?_
      refine lv_bipush (v := 41) hx hb d_Mo_copy_3 (by decide) ?_
      refine lv_icmp_ge (tgt := 30) hx hb d_Mo_copy_5 (by decide) (fun _ => ?_) (fun hq => absurd (show (41 : Int32) ≤ nI 41 from by decide) hq)
      exact r_vret C K () trivial S d_Mo_copy_30 (Nat.le_of_ble_eq_true rfl) (Nat.le_of_ble_eq_true rfl)
    | succ d ih =>
      intro t ht H locs S ls hl
      refine lv_iload_n hx hb d_Mo_copy_2 rfl (lv_at hl 0 rfl) ?_
      refine lv_bipush (v := 41) hx hb d_Mo_copy_3 (by decide) ?_
      refine lv_icmp_ge (tgt := 30) hx hb d_Mo_copy_5 (by decide) (fun hq => absurd hq (show ¬ nI 41 ≤ nI t from nI_ge (by omega) (by decide))) (fun _ => ?_)
      refine lv_aload_n hx hb d_Mo_copy_8 rfl (lv_at hl 1 rfl) ?_
      refine r_get C K S 0 rfl rfl clOk_Mo 27 (by decide) wf_Mo_57 (v := .ref (ma 13)) rfl d_Mo_copy_9 ?_
      refine lv_iload_n hx hb d_Mo_copy_12 rfl (lv_at hl 3 rfl) ?_
      refine lv_iload_n hx hb d_Mo_copy_13 rfl (lv_at hl 0 rfl) ?_
      refine lv_iadd hx hb d_Mo_copy_14 ?_
      rw [nI_add]
      refine lv_aload_n hx hb d_Mo_copy_15 rfl (lv_at hl 1 rfl) ?_
      refine r_get C K S 0 rfl rfl clOk_Mo 27 (by decide) wf_Mo_57 (v := .ref (ma 13)) rfl d_Mo_copy_16 ?_
      refine lv_iload_n hx hb d_Mo_copy_19 rfl (lv_at hl 2 rfl) ?_
      refine lv_iload_n hx hb d_Mo_copy_20 rfl (lv_at hl 0 rfl) ?_
      refine lv_iadd hx hb d_Mo_copy_21 ?_
      rw [nI_add]
      refine r_lald C K S 1 rfl (i := nI (fr + t)) (vp_in_nI (by omega) (by decide)) (v := (f (fr + t))) (by rw [nI_clamp (by omega)]; exact lnP_far hne (by omega)) d_Mo_copy_22 ?_
      refine r_last C K S 1 rfl (i := nI (to + t)) (x := (f (fr + t))) (vp_in_nI (by omega) (by decide)) (f' := lnP f fr to (t + 1)) (ws' := [(h0, .inr (8, moL ma iv co)), ((ma 13), .inl (k 1, 36982, .inr (.inl (lnP f fr to (t + 1)))))]) (by rw [vp_updL_eq _ (by omega), lnP_s]) rfl d_Mo_copy_23 (fun H locs S => ?_)
      refine lv_iinc (v := nI (t + 1)) (lv' := [(3, .int (nI (t + 1))), (0, .ref h0), (1, .int (nI fr)), (2, .int (nI to))]) hx hb d_Mo_copy_24 hl (k := 0) rfl (nI_1 t) (by decide) rfl (fun ls hl => ?_)
      refine lv_goto (tgt := 2) hx hb d_Mo_copy_27 (by decide) ?_
      exact ih (t + 1) (by omega) _ _ S ls hl
  refine lv_iconst (v := 0) hx hb d_Mo_copy_0 (by decide) ?_
  refine lv_istore_n (lv' := [(3, .int 0), (0, .ref h0), (1, .int (nI fr)), (2, .int (nI to))]) hx hb d_Mo_copy_1 rfl hl (by decide) rfl (fun ls hl => ?_)
  have S : Sw G A s.heap s.heap [] [(h0, .inr (8, moL ma iv co)), ((ma 13), .inl (k 1, 36982, .inr (.inl (lnP f fr to 0))))] := by rw [lnP_0]; exact S
  exact loop 41 0 (by omega) _ _ S ls hl
/-- a line is added up to t, from a line that lies apart -/
def lnA (f : Nat → Int64) (fr to t : Nat) : Nat → Int64 := fun i => if to ≤ i ∧ i < to + t then f i + f (fr + (i - to)) else f i
theorem lnA_0 (f : Nat → Int64) (fr to : Nat) : lnA f fr to 0 = f := by
  funext i
  unfold lnA
  rw [if_neg (by omega)]
theorem lnA_s (f : Nat → Int64) (fr to t : Nat) : va_up (lnA f fr to t) (to + t) (f (to + t) + f (fr + t)) = lnA f fr to (t + 1) := by
  funext i
  unfold va_up lnA
  by_cases q : i = to + t
  · rw [if_pos q, if_pos (by omega), q, Nat.add_sub_cancel_left]
  · rw [if_neg q]
    by_cases q2 : to ≤ i ∧ i < to + t
    · rw [if_pos q2, if_pos (by omega)]
    · rw [if_neg q2, if_neg (by omega)]
theorem lnA_far {f : Nat → Int64} {fr to t : Nat} (h : fr + 41 ≤ to ∨ to + 41 ≤ fr) (ht : t < 41) : lnA f fr to t (fr + t) = f (fr + t) := if_neg (by omega)
theorem lnA_own {f : Nat → Int64} {fr to t : Nat} : lnA f fr to t (to + t) = f (to + t) := if_neg (by omega)
theorem d_Mo_add_0 : decode c_Mo_add 0 = .ok (.iconst 0, 1) := by decide +kernel
theorem d_Mo_add_1 : decode c_Mo_add 1 = .ok (.istore_n 3, 1) := by decide +kernel
theorem d_Mo_add_2 : decode c_Mo_add 2 = .ok (.iload_n 3, 1) := by decide +kernel
theorem d_Mo_add_3 : decode c_Mo_add 3 = .ok (.bipush 41, 2) := by decide +kernel
theorem d_Mo_add_5 : decode c_Mo_add 5 = .ok (.if_icmp .ge 28, 3) := by decide +kernel
theorem d_Mo_add_8 : decode c_Mo_add 8 = .ok (.aload_n 0, 1) := by decide +kernel
theorem d_Mo_add_9 : decode c_Mo_add 9 = .ok (.getfield 57, 3) := by decide +kernel
theorem d_Mo_add_12 : decode c_Mo_add 12 = .ok (.iload_n 2, 1) := by decide +kernel
theorem d_Mo_add_13 : decode c_Mo_add 13 = .ok (.iload_n 3, 1) := by decide +kernel
theorem d_Mo_add_14 : decode c_Mo_add 14 = .ok (.iadd, 1) := by decide +kernel
theorem d_Mo_add_15 : decode c_Mo_add 15 = .ok (.dup2, 1) := by decide +kernel
theorem d_Mo_add_16 : decode c_Mo_add 16 = .ok (.laload, 1) := by decide +kernel
theorem d_Mo_add_17 : decode c_Mo_add 17 = .ok (.aload_n 0, 1) := by decide +kernel
theorem d_Mo_add_18 : decode c_Mo_add 18 = .ok (.getfield 57, 3) := by decide +kernel
theorem d_Mo_add_21 : decode c_Mo_add 21 = .ok (.iload_n 1, 1) := by decide +kernel
theorem d_Mo_add_22 : decode c_Mo_add 22 = .ok (.iload_n 3, 1) := by decide +kernel
theorem d_Mo_add_23 : decode c_Mo_add 23 = .ok (.iadd, 1) := by decide +kernel
theorem d_Mo_add_24 : decode c_Mo_add 24 = .ok (.laload, 1) := by decide +kernel
theorem d_Mo_add_25 : decode c_Mo_add 25 = .ok (.ladd, 1) := by decide +kernel
theorem d_Mo_add_26 : decode c_Mo_add 26 = .ok (.lastore, 1) := by decide +kernel
theorem d_Mo_add_27 : decode c_Mo_add 27 = .ok (.iinc 3 1, 3) := by decide +kernel
theorem d_Mo_add_30 : decode c_Mo_add 30 = .ok (.goto (-28), 3) := by decide +kernel
theorem d_Mo_add_33 : decode c_Mo_add 33 = .ok (.return_, 1) := by decide +kernel
set_option maxRecDepth 100000 in
set_option maxHeartbeats 4000000 in
/-- add(fr, to) -/
theorem g_Mo_add (l : Launch) (G : va_G) (k : Nat → ClassId) (h0 sz : Nat) (ma : Nat → Nat) (iv : Nat → Int32) (co : Int64) (f : Nat → Int64) (fr to : Nat) (hto : to + 41 ≤ 36982) (hfr : fr + 41 ≤ 36982) (hne : fr + 41 ≤ to ∨ to + 41 ≤ fr) : CV l y_Mo_add c_Mo_add 4 { frames := 0, cells := 0, slots := 0, locals := 0 } [.ref h0, .int (nI fr), .int (nI to)] G k sz [(h0, .inr (8, moL ma iv co)), ((ma 13), .inl (k 1, 36982, .inr (.inl f)))] (fun (u : Unit) => True) (fun u => [(h0, .inr (8, moL ma iv co)), ((ma 13), .inl (k 1, 36982, .inr (.inl (lnA f fr to 41))))]) 0 0 := by
  refine met_start (by decide) (Nat.le_of_ble_eq_true rfl) ?_
  intro p e s m below meth c C K hA hsz S ls hl
  generalize va_A [(h0, .inr (8, moL ma iv co)), ((ma 13), .inl (k 1, 36982, .inr (.inl f)))] sz = A at hA S ⊢
  have hx := C.1
  have hb := C.2.1
  have hl : lv_has ls 4 [(0, .ref h0), (1, .int (nI fr)), (2, .int (nI to))] := hl
  have loop : ∀ d t, t + d = 41 → ∀ (H : Heap) (locs : List Loc), Sw G A s.heap H locs [(h0, .inr (8, moL ma iv co)), ((ma 13), .inl (k 1, 36982, .inr (.inl (lnA f fr to t))))] → ∀ ls : Array Slot, lv_has ls 4 [(3, .int (nI t)), (0, .ref h0), (1, .int (nI fr)), (2, .int (nI to))] → W p l e { frames := 0, cells := 0, slots := 0, locals := 0 } s m [Value.ref h0, Value.int (nI fr), Value.int (nI to)].toArray below meth c H locs 0 0 (MQ below (va_Qv (fun (u : Unit) => True) (Po G k A (fun u => [(h0, .inr (8, moL ma iv co)), ((ma 13), .inl (k 1, 36982, .inr (.inl (lnA f fr to 41))))])) A) [Value.ref h0, Value.int (nI fr), Value.int (nI to)].toArray s 0 0 A) (F0 m 2 ls []) := by
    intro d
    induction d with
    | zero =>
      intro t ht H locs S ls hl
      obtain rfl : t = 41 := by omega
      refine lv_iload_n hx hb d_Mo_add_2 rfl (lv_at hl 0 rfl) ?_
      refine lv_bipush (v := 41) hx hb d_Mo_add_3 (by decide) ?_
      refine lv_icmp_ge (tgt := 33) hx hb d_Mo_add_5 (by decide) (fun _ => ?_) (fun hq => absurd (show (41 : Int32) ≤ nI 41 from by decide) hq)
      exact r_vret C K () trivial S d_Mo_add_33 (Nat.le_of_ble_eq_true rfl) (Nat.le_of_ble_eq_true rfl)
    | succ d ih =>
      intro t ht H locs S ls hl
      refine lv_iload_n hx hb d_Mo_add_2 rfl (lv_at hl 0 rfl) ?_
      refine lv_bipush (v := 41) hx hb d_Mo_add_3 (by decide) ?_
      refine lv_icmp_ge (tgt := 33) hx hb d_Mo_add_5 (by decide) (fun hq => absurd hq (show ¬ nI 41 ≤ nI t from nI_ge (by omega) (by decide))) (fun _ => ?_)
      refine lv_aload_n hx hb d_Mo_add_8 rfl (lv_at hl 1 rfl) ?_
      refine r_get C K S 0 rfl rfl clOk_Mo 27 (by decide) wf_Mo_57 (v := .ref (ma 13)) rfl d_Mo_add_9 ?_
      refine lv_iload_n hx hb d_Mo_add_12 rfl (lv_at hl 3 rfl) ?_
      refine lv_iload_n hx hb d_Mo_add_13 rfl (lv_at hl 0 rfl) ?_
      refine lv_iadd hx hb d_Mo_add_14 ?_
      rw [nI_add]
      refine lv_dup2_11 hx hb d_Mo_add_15 rfl rfl ?_
      refine r_lald C K S 1 rfl (i := nI (to + t)) (vp_in_nI (by omega) (by decide)) (v := (f (to + t))) (by rw [nI_clamp (by omega)]; exact lnA_own) d_Mo_add_16 ?_
      refine lv_aload_n hx hb d_Mo_add_17 rfl (lv_at hl 1 rfl) ?_
      refine r_get C K S 0 rfl rfl clOk_Mo 27 (by decide) wf_Mo_57 (v := .ref (ma 13)) rfl d_Mo_add_18 ?_
      refine lv_iload_n hx hb d_Mo_add_21 rfl (lv_at hl 2 rfl) ?_
      refine lv_iload_n hx hb d_Mo_add_22 rfl (lv_at hl 0 rfl) ?_
      refine lv_iadd hx hb d_Mo_add_23 ?_
      rw [nI_add]
      refine r_lald C K S 1 rfl (i := nI (fr + t)) (vp_in_nI (by omega) (by decide)) (v := (f (fr + t))) (by rw [nI_clamp (by omega)]; exact lnA_far hne (by omega)) d_Mo_add_24 ?_
      refine lv_ladd hx hb d_Mo_add_25 ?_
      refine r_last C K S 1 rfl (i := nI (to + t)) (x := (f (to + t)) + (f (fr + t))) (vp_in_nI (by omega) (by decide)) (f' := lnA f fr to (t + 1)) (ws' := [(h0, .inr (8, moL ma iv co)), ((ma 13), .inl (k 1, 36982, .inr (.inl (lnA f fr to (t + 1)))))]) (by rw [vp_updL_eq _ (by omega), lnA_s]) rfl d_Mo_add_26 (fun H locs S => ?_)
      refine lv_iinc (v := nI (t + 1)) (lv' := [(3, .int (nI (t + 1))), (0, .ref h0), (1, .int (nI fr)), (2, .int (nI to))]) hx hb d_Mo_add_27 hl (k := 0) rfl (nI_1 t) (by decide) rfl (fun ls hl => ?_)
      refine lv_goto (tgt := 2) hx hb d_Mo_add_30 (by decide) ?_
      exact ih (t + 1) (by omega) _ _ S ls hl
  refine lv_iconst (v := 0) hx hb d_Mo_add_0 (by decide) ?_
  refine lv_istore_n (lv' := [(3, .int 0), (0, .ref h0), (1, .int (nI fr)), (2, .int (nI to))]) hx hb d_Mo_add_1 rfl hl (by decide) rfl (fun ls hl => ?_)
  have S : Sw G A s.heap s.heap [] [(h0, .inr (8, moL ma iv co)), ((ma 13), .inl (k 1, 36982, .inr (.inl (lnA f fr to 0))))] := by rw [lnA_0]; exact S
  exact loop 41 0 (by omega) _ _ S ls hl
