/-- one less, as an int that may be -1 -/
def pm : Nat → Int32
  | 0 => -1
  | t + 1 => nI t
theorem pm_of (t : Nat) : nI t - 1 = pm t := by
  cases t with
  | zero => decide
  | succ t => exact nI_pred t
theorem pm_dn (t : Nat) : nI t + Int32.ofInt (-1) = pm t := by
  rw [← pm_of, show Int32.ofInt (-1) = -1 from by decide, Int32.sub_eq_add_neg]
/-- which of two rows of digits is more, the first t of each -/
def cmpD (ga gb : Nat → Nat) : Nat → Int32
  | 0 => 0
  | t + 1 => if ga t = gb t then cmpD ga gb t else if ga t < gb t then -1 else 1
def cmpN (ga gb : Nat → Nat) (na nb : Nat) : Int32 := if na = nb then cmpD ga gb na else if na < nb then -1 else 1
theorem d_Mo_compare_0 : decode c_Mo_compare 0 = .ok (.iload_n 1, 1) := by decide +kernel
theorem d_Mo_compare_1 : decode c_Mo_compare 1 = .ok (.iload_n 3, 1) := by decide +kernel
theorem d_Mo_compare_2 : decode c_Mo_compare 2 = .ok (.if_icmp .eq 14, 3) := by decide +kernel
theorem d_Mo_compare_5 : decode c_Mo_compare 5 = .ok (.iload_n 1, 1) := by decide +kernel
theorem d_Mo_compare_6 : decode c_Mo_compare 6 = .ok (.iload_n 3, 1) := by decide +kernel
theorem d_Mo_compare_7 : decode c_Mo_compare 7 = .ok (.if_icmp .ge 7, 3) := by decide +kernel
theorem d_Mo_compare_10 : decode c_Mo_compare 10 = .ok (.iconst (-1), 1) := by decide +kernel
theorem d_Mo_compare_11 : decode c_Mo_compare 11 = .ok (.goto 4, 3) := by decide +kernel
theorem d_Mo_compare_14 : decode c_Mo_compare 14 = .ok (.iconst 1, 1) := by decide +kernel
theorem d_Mo_compare_15 : decode c_Mo_compare 15 = .ok (.ireturn, 1) := by decide +kernel
theorem d_Mo_compare_16 : decode c_Mo_compare 16 = .ok (.iload_n 1, 1) := by decide +kernel
theorem d_Mo_compare_17 : decode c_Mo_compare 17 = .ok (.iconst 1, 1) := by decide +kernel
theorem d_Mo_compare_18 : decode c_Mo_compare 18 = .ok (.isub, 1) := by decide +kernel
theorem d_Mo_compare_19 : decode c_Mo_compare 19 = .ok (.istore 4, 2) := by decide +kernel
theorem d_Mo_compare_21 : decode c_Mo_compare 21 = .ok (.iload 4, 2) := by decide +kernel
theorem d_Mo_compare_23 : decode c_Mo_compare 23 = .ok (.ifCond .lt 20, 3) := by decide +kernel
theorem d_Mo_compare_26 : decode c_Mo_compare 26 = .ok (.aload_n 0, 1) := by decide +kernel
theorem d_Mo_compare_27 : decode c_Mo_compare 27 = .ok (.iload 4, 2) := by decide +kernel
theorem d_Mo_compare_29 : decode c_Mo_compare 29 = .ok (.iaload, 1) := by decide +kernel
theorem d_Mo_compare_30 : decode c_Mo_compare 30 = .ok (.aload_n 2, 1) := by decide +kernel
theorem d_Mo_compare_31 : decode c_Mo_compare 31 = .ok (.iload 4, 2) := by decide +kernel
theorem d_Mo_compare_33 : decode c_Mo_compare 33 = .ok (.iaload, 1) := by decide +kernel
theorem d_Mo_compare_34 : decode c_Mo_compare 34 = .ok (.if_icmp .ne 9, 3) := by decide +kernel
theorem d_Mo_compare_37 : decode c_Mo_compare 37 = .ok (.iinc 4 (-1), 3) := by decide +kernel
theorem d_Mo_compare_40 : decode c_Mo_compare 40 = .ok (.goto (-19), 3) := by decide +kernel
theorem d_Mo_compare_43 : decode c_Mo_compare 43 = .ok (.iload 4, 2) := by decide +kernel
theorem d_Mo_compare_45 : decode c_Mo_compare 45 = .ok (.ifCond .ge 7, 3) := by decide +kernel
theorem d_Mo_compare_48 : decode c_Mo_compare 48 = .ok (.iconst 0, 1) := by decide +kernel
theorem d_Mo_compare_49 : decode c_Mo_compare 49 = .ok (.goto 19, 3) := by decide +kernel
theorem d_Mo_compare_52 : decode c_Mo_compare 52 = .ok (.aload_n 0, 1) := by decide +kernel
theorem d_Mo_compare_53 : decode c_Mo_compare 53 = .ok (.iload 4, 2) := by decide +kernel
theorem d_Mo_compare_55 : decode c_Mo_compare 55 = .ok (.iaload, 1) := by decide +kernel
theorem d_Mo_compare_56 : decode c_Mo_compare 56 = .ok (.aload_n 2, 1) := by decide +kernel
theorem d_Mo_compare_57 : decode c_Mo_compare 57 = .ok (.iload 4, 2) := by decide +kernel
theorem d_Mo_compare_59 : decode c_Mo_compare 59 = .ok (.iaload, 1) := by decide +kernel
theorem d_Mo_compare_60 : decode c_Mo_compare 60 = .ok (.if_icmp .ge 7, 3) := by decide +kernel
theorem d_Mo_compare_63 : decode c_Mo_compare 63 = .ok (.iconst (-1), 1) := by decide +kernel
theorem d_Mo_compare_64 : decode c_Mo_compare 64 = .ok (.goto 4, 3) := by decide +kernel
theorem d_Mo_compare_67 : decode c_Mo_compare 67 = .ok (.iconst 1, 1) := by decide +kernel
theorem d_Mo_compare_68 : decode c_Mo_compare 68 = .ok (.ireturn, 1) := by decide +kernel
set_option maxRecDepth 100000 in
set_option maxHeartbeats 4000000 in
/-- compare(x, na, y, nb) -/
theorem g_Mo_compare (l : Launch) (G : va_G) (k : Nat → ClassId) (sz x y la lb na nb : Nat) (ga gb : Nat → Nat) (ha : na ≤ la) (hb9 : nb ≤ lb) (hla : la < 2 ^ 31) (hlb : lb < 2 ^ 31) (da : ∀ i, i < la → ga i < 65536) (db : ∀ i, i < lb → gb i < 65536) : CI l y_Mo_compare c_Mo_compare 5 .int { frames := 0, cells := 0, slots := 0, locals := 0 } [.ref x, .int (nI na), .ref y, .int (nI nb)] G k sz [(x, .inl (k 0, la, .inl (fun i => nI (ga i)))), (y, .inl (k 0, lb, .inl (fun i => nI (gb i))))] (fun (r : Int32) (_ : Unit) => r = cmpN ga gb na nb) (fun _ => [(x, .inl (k 0, la, .inl (fun i => nI (ga i)))), (y, .inl (k 0, lb, .inl (fun i => nI (gb i))))]) 0 0 := by
  refine met_start (by decide) (Nat.le_of_ble_eq_true rfl) ?_
  intro p e s m below meth c C K hA hsz S ls hl
  generalize va_A [(x, .inl (k 0, la, .inl (fun i => nI (ga i)))), (y, .inl (k 0, lb, .inl (fun i => nI (gb i))))] sz = A at hA S ⊢
  have hx := C.1
  have hb := C.2.1
  have hl : lv_has ls 5 [(0, .ref x), (1, .int (nI na)), (2, .ref y), (3, .int (nI nb))] := hl
  have loop : ∀ t, t ≤ na → t ≤ nb → cmpD ga gb t = cmpN ga gb na nb → ∀ ls : Array Slot, lv_has ls 5 [(4, .int (pm t)), (0, .ref x), (1, .int (nI na)), (2, .ref y), (3, .int (nI nb))] → W p l e { frames := 0, cells := 0, slots := 0, locals := 0 } s m [Value.ref x, Value.int (nI na), Value.ref y, Value.int (nI nb)].toArray below meth c s.heap [] 0 0 (MQ below (va_Qi (fun (r : Int32) (_ : Unit) => r = cmpN ga gb na nb) (Po G k A (fun _ => [(x, .inl (k 0, la, .inl (fun i => nI (ga i)))), (y, .inl (k 0, lb, .inl (fun i => nI (gb i))))])) A) [Value.ref x, Value.int (nI na), Value.ref y, Value.int (nI nb)].toArray s 0 0 A) (F0 m 21 ls []) := by
    intro t
    induction t with
    | zero =>
      intro h1 h2 he ls hl
      have hl : lv_has ls 5 [(4, .int (-1)), (0, .ref x), (1, .int (nI na)), (2, .ref y), (3, .int (nI nb))] := hl
      refine lv_iload hx hb d_Mo_compare_21 (lv_at hl 0 rfl) ?_
      refine lv_if_lt (tgt := 43) hx hb d_Mo_compare_23 (by decide) (fun _ => ?_) (fun hq => absurd (by decide) hq)
      refine lv_iload hx hb d_Mo_compare_43 (lv_at hl 0 rfl) ?_
      refine lv_if_ge (tgt := 52) hx hb d_Mo_compare_45 (by decide) (fun hq => absurd hq (by decide)) (fun _ => ?_)
      refine lv_iconst (v := 0) hx hb d_Mo_compare_48 (by decide) ?_
      refine lv_goto (tgt := 68) hx hb d_Mo_compare_49 (by decide) ?_
      exact r_iret C K rfl () (by rw [← he]; rfl) S d_Mo_compare_68 (Nat.le_of_ble_eq_true rfl) (Nat.le_of_ble_eq_true rfl)
    | succ t ih =>
      intro h1 h2 he ls hl
      have hl : lv_has ls 5 [(4, .int (nI t)), (0, .ref x), (1, .int (nI na)), (2, .ref y), (3, .int (nI nb))] := hl
      have d1 := da t (by omega)
      have d2 := db t (by omega)
      refine lv_iload hx hb d_Mo_compare_21 (lv_at hl 0 rfl) ?_
      refine lv_if_lt (tgt := 43) hx hb d_Mo_compare_23 (by decide) (fun hq => absurd hq (nI_pos (by omega))) (fun _ => ?_)
      refine lv_aload_n hx hb d_Mo_compare_26 rfl (lv_at hl 1 rfl) ?_
      refine lv_iload hx hb d_Mo_compare_27 (lv_at hl 0 rfl) ?_
      refine r_iald C K S 0 rfl (i := nI t) (vp_in_nI (by omega) hla) (v := (nI (ga t))) (by rw [nI_clamp (by omega)]) d_Mo_compare_29 ?_
      refine lv_aload_n hx hb d_Mo_compare_30 rfl (lv_at hl 3 rfl) ?_
      refine lv_iload hx hb d_Mo_compare_31 (lv_at hl 0 rfl) ?_
      refine r_iald C K S 1 rfl (i := nI t) (vp_in_nI (by omega) hlb) (v := (nI (gb t))) (by rw [nI_clamp (by omega)]) d_Mo_compare_33 ?_
      refine lv_icmp_ne (tgt := 43) hx hb d_Mo_compare_34 (by decide) (fun hq => ?_) (fun hq => ?_)
      · refine lv_iload hx hb d_Mo_compare_43 (lv_at hl 0 rfl) ?_
        refine lv_if_ge (tgt := 52) hx hb d_Mo_compare_45 (by decide) (fun _ => ?_) (fun hq => absurd (nI_pos' (by omega)) hq)
        refine lv_aload_n hx hb d_Mo_compare_52 rfl (lv_at hl 1 rfl) ?_
        refine lv_iload hx hb d_Mo_compare_53 (lv_at hl 0 rfl) ?_
        refine r_iald C K S 0 rfl (i := nI t) (vp_in_nI (by omega) hla) (v := (nI (ga t))) (by rw [nI_clamp (by omega)]) d_Mo_compare_55 ?_
        refine lv_aload_n hx hb d_Mo_compare_56 rfl (lv_at hl 3 rfl) ?_
        refine lv_iload hx hb d_Mo_compare_57 (lv_at hl 0 rfl) ?_
        refine r_iald C K S 1 rfl (i := nI t) (vp_in_nI (by omega) hlb) (v := (nI (gb t))) (by rw [nI_clamp (by omega)]) d_Mo_compare_59 ?_
        have hn : ¬ ga t = gb t := fun e9 => hq (by rw [e9])
        refine lv_icmp_ge (tgt := 67) hx hb d_Mo_compare_60 (by decide) (fun hg => ?_) (fun hg => ?_)
        · refine lv_iconst (v := 1) hx hb d_Mo_compare_67 (by decide) ?_
          exact r_iret C K rfl () (by rw [← he, cmpD, if_neg hn, if_neg (by have := (nI_leI (a := gb t) (b := ga t) (by omega) (by omega)).mp hg; omega)]) S d_Mo_compare_68 (Nat.le_of_ble_eq_true rfl) (Nat.le_of_ble_eq_true rfl)
        · refine lv_iconst (v := (-1)) hx hb d_Mo_compare_63 (by decide) ?_
          refine lv_goto (tgt := 68) hx hb d_Mo_compare_64 (by decide) ?_
          exact r_iret C K rfl () (by rw [← he, cmpD, if_neg hn, if_pos (Nat.lt_of_not_le (fun z => hg ((nI_leI (a := gb t) (b := ga t) (by omega) (by omega)).mpr z)))]) S d_Mo_compare_68 (Nat.le_of_ble_eq_true rfl) (Nat.le_of_ble_eq_true rfl)
      · have hn : ga t = gb t := (nI_eq (by omega) (by omega)).mp hq
        refine lv_iinc (v := pm t) (lv' := [(4, .int (pm t)), (0, .ref x), (1, .int (nI na)), (2, .ref y), (3, .int (nI nb))]) hx hb d_Mo_compare_37 hl (k := 0) rfl (pm_dn t) (by decide) rfl (fun ls hl => ?_)
        refine lv_goto (tgt := 21) hx hb d_Mo_compare_40 (by decide) ?_
        exact ih (by omega) (by omega) (by rw [← he, cmpD, if_pos hn]) ls hl
  refine lv_iload_n hx hb d_Mo_compare_0 rfl (lv_at hl 1 rfl) ?_
  refine lv_iload_n hx hb d_Mo_compare_1 rfl (lv_at hl 3 rfl) ?_
  refine lv_icmp_eq (tgt := 16) hx hb d_Mo_compare_2 (by decide) (fun hq => ?_) (fun hq => ?_)
  · have hn : na = nb := (nI_eq (by omega) (by omega)).mp hq
    refine lv_iload_n hx hb d_Mo_compare_16 rfl (lv_at hl 1 rfl) ?_
    refine lv_iconst (v := 1) hx hb d_Mo_compare_17 (by decide) ?_
    refine lv_isub hx hb d_Mo_compare_18 ?_
    rw [pm_of]
    refine lv_istore (lv' := [(4, .int (pm na)), (0, .ref x), (1, .int (nI na)), (2, .ref y), (3, .int (nI nb))]) hx hb d_Mo_compare_19 hl (by decide) rfl (fun ls hl => ?_)
    exact loop na (Nat.le_refl na) (by omega) (by rw [cmpN, if_pos hn]) ls hl
  · have hn : ¬ na = nb := fun e9 => hq (by rw [e9])
    refine lv_iload_n hx hb d_Mo_compare_5 rfl (lv_at hl 1 rfl) ?_
    refine lv_iload_n hx hb d_Mo_compare_6 rfl (lv_at hl 3 rfl) ?_
    refine lv_icmp_ge (tgt := 14) hx hb d_Mo_compare_7 (by decide) (fun hg => ?_) (fun hg => ?_)
    · refine lv_iconst (v := 1) hx hb d_Mo_compare_14 (by decide) ?_
      exact r_iret C K rfl () (by rw [cmpN, if_neg hn, if_neg (by have := (nI_leI (a := nb) (b := na) (by omega) (by omega)).mp hg; omega)]) S d_Mo_compare_15 (Nat.le_of_ble_eq_true rfl) (Nat.le_of_ble_eq_true rfl)
    · refine lv_iconst (v := (-1)) hx hb d_Mo_compare_10 (by decide) ?_
      refine lv_goto (tgt := 15) hx hb d_Mo_compare_11 (by decide) ?_
      exact r_iret C K rfl () (by rw [cmpN, if_neg hn, if_pos (Nat.lt_of_not_le (fun z => hg ((nI_leI (a := nb) (b := na) (by omega) (by omega)).mpr z)))]) S d_Mo_compare_15 (Nat.le_of_ble_eq_true rfl) (Nat.le_of_ble_eq_true rfl)
