section
theorem kb_1 {W : Nat → Int32} {a p kn : Nat} {st : Stk} (h : W a = 3 ∨ W a = 6) (hp : p = 1) : kbN W ((a, p, kn) :: st) = kn + 1 := by
  show kn + (if (W a = 3 ∨ W a = 6) ∧ p = 1 then 1 else 0) = kn + 1
  rw [if_pos ⟨h, hp⟩]
theorem kb_0 {W : Nat → Int32} {a p kn : Nat} {st : Stk} (h : ¬ ((W a = 3 ∨ W a = 6) ∧ p = 1)) : kbN W ((a, p, kn) :: st) = kn := by
  show kn + (if (W a = 3 ∨ W a = 6) ∧ p = 1 then 1 else 0) = kn
  rw [if_neg h]; rfl
/-- what the reading says: the wrong place, if there is one -/
def wrR (cnt : Nat) : PR → Option Nat
  | .inl b => some b
  | .inr (a2, _, _) => if a2 = cnt then none else some a2
theorem wl_top {W : Nat → Int32} {tk : Nat → Nat} {nf cnt kn : Nat} {E : Nat → Nat} : ∃ r9 E9, WL W tk nf cnt 0 0 kn [] E r9 E9 ∧ r9 = wrR cnt (prs W tk nf cnt 16 kn 0 0 E) ∧ ∀ a2 n2 E2, prs W tk nf cnt 16 kn 0 0 E = .inr (a2, n2, E2) → E9 = E2 := by
  have h := wl_prs (W := W) (tk := tk) (nf := nf) (cnt := cnt) 16 kn 0 0 [] E rfl (Nat.zero_le _) (Nat.zero_le _)
  cases hp : prs W tk nf cnt 16 kn 0 0 E with
  | inl b =>
    rw [hp] at h
    obtain ⟨E9, h⟩ := h
    exact ⟨some b, E9, h, rfl, fun _ _ _ q => absurd q (by simp)⟩
  | inr x =>
    obtain ⟨a2, n2, E2⟩ := x
    rw [hp] at h
    refine ⟨_, E2, (h.2.2 [] E2 rfl).1 rfl, rfl, fun b2 m2 F2 q => ?_⟩
    injection q with q
    injection q with q1 q
    injection q with q2 q3
theorem d_Mo_knownBehind_0 : decode c_Mo_knownBehind 0 = .ok (.aload_n 0, 1) := by decide +kernel
theorem d_Mo_knownBehind_1 : decode c_Mo_knownBehind 1 = .ok (.getfield 13, 3) := by decide +kernel
theorem d_Mo_knownBehind_4 : decode c_Mo_knownBehind 4 = .ok (.sipush 200, 3) := by decide +kernel
theorem d_Mo_knownBehind_7 : decode c_Mo_knownBehind 7 = .ok (.iload_n 1, 1) := by decide +kernel
theorem d_Mo_knownBehind_8 : decode c_Mo_knownBehind 8 = .ok (.imul, 1) := by decide +kernel
theorem d_Mo_knownBehind_9 : decode c_Mo_knownBehind 9 = .ok (.aload_n 0, 1) := by decide +kernel
theorem d_Mo_knownBehind_10 : decode c_Mo_knownBehind 10 = .ok (.getfield 26, 3) := by decide +kernel
theorem d_Mo_knownBehind_13 : decode c_Mo_knownBehind 13 = .ok (.aload_n 0, 1) := by decide +kernel
theorem d_Mo_knownBehind_14 : decode c_Mo_knownBehind 14 = .ok (.getfield 118, 3) := by decide +kernel
theorem d_Mo_knownBehind_17 : decode c_Mo_knownBehind 17 = .ok (.iconst 1, 1) := by decide +kernel
theorem d_Mo_knownBehind_18 : decode c_Mo_knownBehind 18 = .ok (.isub, 1) := by decide +kernel
theorem d_Mo_knownBehind_19 : decode c_Mo_knownBehind 19 = .ok (.iaload, 1) := by decide +kernel
theorem d_Mo_knownBehind_20 : decode c_Mo_knownBehind 20 = .ok (.iadd, 1) := by decide +kernel
theorem d_Mo_knownBehind_21 : decode c_Mo_knownBehind 21 = .ok (.iaload, 1) := by decide +kernel
theorem d_Mo_knownBehind_22 : decode c_Mo_knownBehind 22 = .ok (.istore_n 2, 1) := by decide +kernel
theorem d_Mo_knownBehind_23 : decode c_Mo_knownBehind 23 = .ok (.iload_n 2, 1) := by decide +kernel
theorem d_Mo_knownBehind_24 : decode c_Mo_knownBehind 24 = .ok (.iconst 3, 1) := by decide +kernel
theorem d_Mo_knownBehind_25 : decode c_Mo_knownBehind 25 = .ok (.if_icmp .eq 9, 3) := by decide +kernel
theorem d_Mo_knownBehind_28 : decode c_Mo_knownBehind 28 = .ok (.iload_n 2, 1) := by decide +kernel
theorem d_Mo_knownBehind_29 : decode c_Mo_knownBehind 29 = .ok (.bipush 6, 2) := by decide +kernel
theorem d_Mo_knownBehind_31 : decode c_Mo_knownBehind 31 = .ok (.if_icmp .ne 22, 3) := by decide +kernel
theorem d_Mo_knownBehind_34 : decode c_Mo_knownBehind 34 = .ok (.aload_n 0, 1) := by decide +kernel
theorem d_Mo_knownBehind_35 : decode c_Mo_knownBehind 35 = .ok (.getfield 29, 3) := by decide +kernel
theorem d_Mo_knownBehind_38 : decode c_Mo_knownBehind 38 = .ok (.aload_n 0, 1) := by decide +kernel
theorem d_Mo_knownBehind_39 : decode c_Mo_knownBehind 39 = .ok (.getfield 118, 3) := by decide +kernel
theorem d_Mo_knownBehind_42 : decode c_Mo_knownBehind 42 = .ok (.iconst 1, 1) := by decide +kernel
theorem d_Mo_knownBehind_43 : decode c_Mo_knownBehind 43 = .ok (.isub, 1) := by decide +kernel
theorem d_Mo_knownBehind_44 : decode c_Mo_knownBehind 44 = .ok (.iaload, 1) := by decide +kernel
theorem d_Mo_knownBehind_45 : decode c_Mo_knownBehind 45 = .ok (.iconst 1, 1) := by decide +kernel
theorem d_Mo_knownBehind_46 : decode c_Mo_knownBehind 46 = .ok (.if_icmp .ne 7, 3) := by decide +kernel
theorem d_Mo_knownBehind_49 : decode c_Mo_knownBehind 49 = .ok (.iconst 1, 1) := by decide +kernel
theorem d_Mo_knownBehind_50 : decode c_Mo_knownBehind 50 = .ok (.goto 4, 3) := by decide +kernel
theorem d_Mo_knownBehind_53 : decode c_Mo_knownBehind 53 = .ok (.iconst 0, 1) := by decide +kernel
theorem d_Mo_knownBehind_54 : decode c_Mo_knownBehind 54 = .ok (.istore_n 3, 1) := by decide +kernel
theorem d_Mo_knownBehind_55 : decode c_Mo_knownBehind 55 = .ok (.aload_n 0, 1) := by decide +kernel
theorem d_Mo_knownBehind_56 : decode c_Mo_knownBehind 56 = .ok (.getfield 32, 3) := by decide +kernel
theorem d_Mo_knownBehind_59 : decode c_Mo_knownBehind 59 = .ok (.aload_n 0, 1) := by decide +kernel
theorem d_Mo_knownBehind_60 : decode c_Mo_knownBehind 60 = .ok (.getfield 118, 3) := by decide +kernel
theorem d_Mo_knownBehind_63 : decode c_Mo_knownBehind 63 = .ok (.iconst 1, 1) := by decide +kernel
theorem d_Mo_knownBehind_64 : decode c_Mo_knownBehind 64 = .ok (.isub, 1) := by decide +kernel
theorem d_Mo_knownBehind_65 : decode c_Mo_knownBehind 65 = .ok (.iaload, 1) := by decide +kernel
theorem d_Mo_knownBehind_66 : decode c_Mo_knownBehind 66 = .ok (.iload_n 3, 1) := by decide +kernel
theorem d_Mo_knownBehind_67 : decode c_Mo_knownBehind 67 = .ok (.ifCond .eq 7, 3) := by decide +kernel
theorem d_Mo_knownBehind_70 : decode c_Mo_knownBehind 70 = .ok (.iconst 1, 1) := by decide +kernel
theorem d_Mo_knownBehind_71 : decode c_Mo_knownBehind 71 = .ok (.goto 4, 3) := by decide +kernel
theorem d_Mo_knownBehind_74 : decode c_Mo_knownBehind 74 = .ok (.iconst 0, 1) := by decide +kernel
theorem d_Mo_knownBehind_75 : decode c_Mo_knownBehind 75 = .ok (.iadd, 1) := by decide +kernel
theorem d_Mo_knownBehind_76 : decode c_Mo_knownBehind 76 = .ok (.ireturn, 1) := by decide +kernel
set_option maxRecDepth 100000 in
set_option maxHeartbeats 16000000 in
/-- knownBehind(f9) -/
theorem g_Mo_knownBehind (l : Launch) (G : va_G) (k : Nat → ClassId) (h0 : Nat) (s0 : Nat) (f9 : Nat) (a9 : Nat) (p9 : Nat) (kn9 : Nat) (rs : Stk) (ma : Nat → Nat) (iv : Nat → Int32) (co : Int64) (wd : Nat → Int32) (OA : Nat → Nat) (OP : Nat → Nat) (OK : Nat → Nat) (hf : f9 < 4) (hst : stO ((a9, p9, kn9) :: rs) OA OP OK) (ha : a9 < 200) (hp : p9 ≤ 200) (hln : rs.length ≤ 18) : CI l y_Mo_knownBehind c_Mo_knownBehind 4 .int { frames := 0, cells := 0, slots := 0, locals := 0 } [.ref h0, .int (nI f9)] G k s0 [(h0, .inr (8, moL ma (va_up iv 2 (nI (rs.length + 1))) co)), ((ma 1), .inl (k 0, 800, .inl wd)), ((ma 4), .inl (k 0, 20, .inl (fun i => nI (OA i)))), ((ma 5), .inl (k 0, 20, .inl (fun i => nI (OP i)))), ((ma 6), .inl (k 0, 20, .inl (fun i => nI (OK i))))] (fun (r : Int32) (u : Unit) => r = nI (kbN (wdF wd f9) ((a9, p9, kn9) :: rs)) ∧ True) (fun u => [(h0, .inr (8, moL ma (va_up iv 2 (nI (rs.length + 1))) co)), ((ma 1), .inl (k 0, 800, .inl wd)), ((ma 4), .inl (k 0, 20, .inl (fun i => nI (OA i)))), ((ma 5), .inl (k 0, 20, .inl (fun i => nI (OP i)))), ((ma 6), .inl (k 0, 20, .inl (fun i => nI (OK i))))]) 0 0 := by
  refine met_start (by decide) (Nat.le_of_ble_eq_true rfl) ?_
  intro p e s m below meth c C K hA hsz S ls hl
  generalize va_A [(h0, .inr (8, moL ma (va_up iv 2 (nI (rs.length + 1))) co)), ((ma 1), .inl (k 0, 800, .inl wd)), ((ma 4), .inl (k 0, 20, .inl (fun i => nI (OA i)))), ((ma 5), .inl (k 0, 20, .inl (fun i => nI (OP i)))), ((ma 6), .inl (k 0, 20, .inl (fun i => nI (OK i))))] s0 = A at hA S ⊢
  have hx := C.1
  have hb := C.2.1
  have hl : lv_has ls 4 [(0, .ref h0), (1, .int (nI f9))] := hl
  obtain ⟨t1, t2, t3, t4⟩ := hst
  refine lv_aload_n hx hb d_Mo_knownBehind_0 rfl (lv_at hl 0 rfl) ?_
  refine r_get C K S 0 rfl rfl clOk_Mo 2 (by decide) wf_Mo_13 (v := .ref (ma 1)) rfl d_Mo_knownBehind_1 ?_
  refine lv_sipush (v := 200) hx hb d_Mo_knownBehind_4 (by decide) ?_
  refine lv_iload_n hx hb d_Mo_knownBehind_7 rfl (lv_at hl 1 rfl) ?_
  refine z_imul (x := 200) (y := nI f9) (v := nI (200 * f9)) hx hb d_Mo_knownBehind_8 (pk_mul 200 f9) ?_
  refine lv_aload_n hx hb d_Mo_knownBehind_9 rfl (lv_at hl 0 rfl) ?_
  refine r_get C K S 0 rfl rfl clOk_Mo 6 (by decide) wf_Mo_26 (v := .ref (ma 4)) rfl d_Mo_knownBehind_10 ?_
  refine lv_aload_n hx hb d_Mo_knownBehind_13 rfl (lv_at hl 0 rfl) ?_
  refine r_get C K S 0 rfl rfl clOk_Mo 9 (by decide) wf_Mo_118 (v := .int (nI (rs.length + 1))) rfl d_Mo_knownBehind_14 ?_
  refine lv_iconst (v := 1) hx hb d_Mo_knownBehind_17 (by decide) ?_
  refine z_isub (x := nI (rs.length + 1)) (y := 1) (v := nI (rs.length + 1 - 1)) hx hb d_Mo_knownBehind_18 (pk_sub (a := (rs.length + 1)) (b := 1) (by omega)) ?_
  refine r_iald C K S 2 rfl (i := nI (rs.length + 1 - 1)) (show vp_in (nI (rs.length + 1 - 1)) _ from vp_in_nI (n := (rs.length + 1 - 1)) (by omega) (by decide)) (v := nI (OA (rs.length + 1 - 1))) (by rw [nI_clamp (by omega)]) d_Mo_knownBehind_19 ?_
  rw [show OA (rs.length + 1 - 1) = a9 from t1]
  refine z_iadd (x := nI (200 * f9)) (y := nI a9) (v := nI (200 * f9 + a9)) hx hb d_Mo_knownBehind_20 (nI_add (200 * f9) a9) ?_
  refine r_iald C K S 1 rfl (i := nI (200 * f9 + a9)) (show vp_in (nI (200 * f9 + a9)) _ from vp_in_nI (n := (200 * f9 + a9)) (by omega) (by decide)) (v := wdF wd f9 a9) (by rw [nI_clamp (by omega)]; exact (show wd (200 * f9 + a9) = wd (200 * f9 + a9) from congrArg wd (by omega))) d_Mo_knownBehind_21 ?_
  refine lv_istore_n (lv' := [(2, .int (wdF wd f9 a9)), (0, .ref h0), (1, .int (nI f9))]) hx hb d_Mo_knownBehind_22 rfl hl (by decide) rfl (fun ls hl => ?_)
  refine lv_iload_n hx hb d_Mo_knownBehind_23 rfl (lv_at hl 0 rfl) ?_
  refine lv_iconst (v := 3) hx hb d_Mo_knownBehind_24 (by decide) ?_
  refine lv_icmp_eq (tgt := 34) hx hb d_Mo_knownBehind_25 (by decide) (fun hc1 => ?_) (fun hc1 => ?_)
  · refine lv_aload_n hx hb d_Mo_knownBehind_34 rfl (lv_at hl 1 rfl) ?_
    refine r_get C K S 0 rfl rfl clOk_Mo 7 (by decide) wf_Mo_29 (v := .ref (ma 5)) rfl d_Mo_knownBehind_35 ?_
    refine lv_aload_n hx hb d_Mo_knownBehind_38 rfl (lv_at hl 1 rfl) ?_
    refine r_get C K S 0 rfl rfl clOk_Mo 9 (by decide) wf_Mo_118 (v := .int (nI (rs.length + 1))) rfl d_Mo_knownBehind_39 ?_
    refine lv_iconst (v := 1) hx hb d_Mo_knownBehind_42 (by decide) ?_
    refine z_isub (x := nI (rs.length + 1)) (y := 1) (v := nI (rs.length + 1 - 1)) hx hb d_Mo_knownBehind_43 (pk_sub (a := (rs.length + 1)) (b := 1) (by omega)) ?_
    refine r_iald C K S 3 rfl (i := nI (rs.length + 1 - 1)) (show vp_in (nI (rs.length + 1 - 1)) _ from vp_in_nI (n := (rs.length + 1 - 1)) (by omega) (by decide)) (v := nI (OP (rs.length + 1 - 1))) (by rw [nI_clamp (by omega)]) d_Mo_knownBehind_44 ?_
    rw [show OP (rs.length + 1 - 1) = p9 from t2]
    refine lv_iconst (v := 1) hx hb d_Mo_knownBehind_45 (by decide) ?_
    refine z_icmp_ne (a := p9) (b := 1) (tgt := 53) hx hb d_Mo_knownBehind_46 (by decide) (by omega) (by omega) (fun hc2 => ?_) (fun hc2 => ?_)
    · refine lv_iconst (v := 0) hx hb d_Mo_knownBehind_53 (by decide) ?_
      refine lv_istore_n (lv' := [(3, .int 0), (2, .int (wdF wd f9 a9)), (0, .ref h0), (1, .int (nI f9))]) hx hb d_Mo_knownBehind_54 rfl hl (by decide) rfl (fun ls hl => ?_)
      refine lv_aload_n hx hb d_Mo_knownBehind_55 rfl (lv_at hl 2 rfl) ?_
      refine r_get C K S 0 rfl rfl clOk_Mo 8 (by decide) wf_Mo_32 (v := .ref (ma 6)) rfl d_Mo_knownBehind_56 ?_
      refine lv_aload_n hx hb d_Mo_knownBehind_59 rfl (lv_at hl 2 rfl) ?_
      refine r_get C K S 0 rfl rfl clOk_Mo 9 (by decide) wf_Mo_118 (v := .int (nI (rs.length + 1))) rfl d_Mo_knownBehind_60 ?_
      refine lv_iconst (v := 1) hx hb d_Mo_knownBehind_63 (by decide) ?_
      refine z_isub (x := nI (rs.length + 1)) (y := 1) (v := nI (rs.length + 1 - 1)) hx hb d_Mo_knownBehind_64 (pk_sub (a := (rs.length + 1)) (b := 1) (by omega)) ?_
      refine r_iald C K S 4 rfl (i := nI (rs.length + 1 - 1)) (show vp_in (nI (rs.length + 1 - 1)) _ from vp_in_nI (n := (rs.length + 1 - 1)) (by omega) (by decide)) (v := nI (OK (rs.length + 1 - 1))) (by rw [nI_clamp (by omega)]) d_Mo_knownBehind_65 ?_
      rw [show OK (rs.length + 1 - 1) = kn9 from t3]
      refine lv_iload_n hx hb d_Mo_knownBehind_66 rfl (lv_at hl 0 rfl) ?_
      refine lv_if_eq (tgt := 74) hx hb d_Mo_knownBehind_67 (by decide) (fun _ => ?_) (fun hq => absurd (by decide) hq)
      refine lv_iconst (v := 0) hx hb d_Mo_knownBehind_74 (by decide) ?_
      refine z_iadd (x := nI kn9) (y := 0) (v := nI kn9) hx hb d_Mo_knownBehind_75 (show _ = nI (kn9) from (nI_add kn9 0).trans (congrArg nI (by omega))) ?_
      exact r_iret C K rfl () ⟨congrArg nI (kb_0 (fun q => hc2 q.2)).symm, trivial⟩ (S.sub [0, 1, 2, 3, 4] (by decide) rfl) d_Mo_knownBehind_76 (Nat.le_of_ble_eq_true rfl) (Nat.le_of_ble_eq_true rfl)
    · refine lv_iconst (v := 1) hx hb d_Mo_knownBehind_49 (by decide) ?_
      refine lv_goto (tgt := 54) hx hb d_Mo_knownBehind_50 (by decide) ?_
      refine lv_istore_n (lv' := [(3, .int 1), (2, .int (wdF wd f9 a9)), (0, .ref h0), (1, .int (nI f9))]) hx hb d_Mo_knownBehind_54 rfl hl (by decide) rfl (fun ls hl => ?_)
      refine lv_aload_n hx hb d_Mo_knownBehind_55 rfl (lv_at hl 2 rfl) ?_
      refine r_get C K S 0 rfl rfl clOk_Mo 8 (by decide) wf_Mo_32 (v := .ref (ma 6)) rfl d_Mo_knownBehind_56 ?_
      refine lv_aload_n hx hb d_Mo_knownBehind_59 rfl (lv_at hl 2 rfl) ?_
      refine r_get C K S 0 rfl rfl clOk_Mo 9 (by decide) wf_Mo_118 (v := .int (nI (rs.length + 1))) rfl d_Mo_knownBehind_60 ?_
      refine lv_iconst (v := 1) hx hb d_Mo_knownBehind_63 (by decide) ?_
      refine z_isub (x := nI (rs.length + 1)) (y := 1) (v := nI (rs.length + 1 - 1)) hx hb d_Mo_knownBehind_64 (pk_sub (a := (rs.length + 1)) (b := 1) (by omega)) ?_
      refine r_iald C K S 4 rfl (i := nI (rs.length + 1 - 1)) (show vp_in (nI (rs.length + 1 - 1)) _ from vp_in_nI (n := (rs.length + 1 - 1)) (by omega) (by decide)) (v := nI (OK (rs.length + 1 - 1))) (by rw [nI_clamp (by omega)]) d_Mo_knownBehind_65 ?_
      rw [show OK (rs.length + 1 - 1) = kn9 from t3]
      refine lv_iload_n hx hb d_Mo_knownBehind_66 rfl (lv_at hl 0 rfl) ?_
      refine lv_if_eq (tgt := 74) hx hb d_Mo_knownBehind_67 (by decide) (fun hq => absurd hq (by decide)) (fun _ => ?_)
      refine lv_iconst (v := 1) hx hb d_Mo_knownBehind_70 (by decide) ?_
      refine lv_goto (tgt := 75) hx hb d_Mo_knownBehind_71 (by decide) ?_
      refine z_iadd (x := nI kn9) (y := 1) (v := nI (kn9 + 1)) hx hb d_Mo_knownBehind_75 (nI_add kn9 1) ?_
      exact r_iret C K rfl () ⟨congrArg nI (kb_1 (Or.inl hc1) hc2).symm, trivial⟩ (S.sub [0, 1, 2, 3, 4] (by decide) rfl) d_Mo_knownBehind_76 (Nat.le_of_ble_eq_true rfl) (Nat.le_of_ble_eq_true rfl)
  · refine lv_iload_n hx hb d_Mo_knownBehind_28 rfl (lv_at hl 0 rfl) ?_
    refine lv_bipush (v := 6) hx hb d_Mo_knownBehind_29 (by decide) ?_
    refine lv_icmp_ne (tgt := 53) hx hb d_Mo_knownBehind_31 (by decide) (fun hc3 => ?_) (fun hc3 => ?_)
    · refine lv_iconst (v := 0) hx hb d_Mo_knownBehind_53 (by decide) ?_
      refine lv_istore_n (lv' := [(3, .int 0), (2, .int (wdF wd f9 a9)), (0, .ref h0), (1, .int (nI f9))]) hx hb d_Mo_knownBehind_54 rfl hl (by decide) rfl (fun ls hl => ?_)
      refine lv_aload_n hx hb d_Mo_knownBehind_55 rfl (lv_at hl 2 rfl) ?_
      refine r_get C K S 0 rfl rfl clOk_Mo 8 (by decide) wf_Mo_32 (v := .ref (ma 6)) rfl d_Mo_knownBehind_56 ?_
      refine lv_aload_n hx hb d_Mo_knownBehind_59 rfl (lv_at hl 2 rfl) ?_
      refine r_get C K S 0 rfl rfl clOk_Mo 9 (by decide) wf_Mo_118 (v := .int (nI (rs.length + 1))) rfl d_Mo_knownBehind_60 ?_
      refine lv_iconst (v := 1) hx hb d_Mo_knownBehind_63 (by decide) ?_
      refine z_isub (x := nI (rs.length + 1)) (y := 1) (v := nI (rs.length + 1 - 1)) hx hb d_Mo_knownBehind_64 (pk_sub (a := (rs.length + 1)) (b := 1) (by omega)) ?_
      refine r_iald C K S 4 rfl (i := nI (rs.length + 1 - 1)) (show vp_in (nI (rs.length + 1 - 1)) _ from vp_in_nI (n := (rs.length + 1 - 1)) (by omega) (by decide)) (v := nI (OK (rs.length + 1 - 1))) (by rw [nI_clamp (by omega)]) d_Mo_knownBehind_65 ?_
      rw [show OK (rs.length + 1 - 1) = kn9 from t3]
      refine lv_iload_n hx hb d_Mo_knownBehind_66 rfl (lv_at hl 0 rfl) ?_
      refine lv_if_eq (tgt := 74) hx hb d_Mo_knownBehind_67 (by decide) (fun _ => ?_) (fun hq => absurd (by decide) hq)
      refine lv_iconst (v := 0) hx hb d_Mo_knownBehind_74 (by decide) ?_
      refine z_iadd (x := nI kn9) (y := 0) (v := nI kn9) hx hb d_Mo_knownBehind_75 (show _ = nI (kn9) from (nI_add kn9 0).trans (congrArg nI (by omega))) ?_
      exact r_iret C K rfl () ⟨congrArg nI (kb_0 (fun q => q.1.elim hc1 hc3)).symm, trivial⟩ (S.sub [0, 1, 2, 3, 4] (by decide) rfl) d_Mo_knownBehind_76 (Nat.le_of_ble_eq_true rfl) (Nat.le_of_ble_eq_true rfl)
    · refine lv_aload_n hx hb d_Mo_knownBehind_34 rfl (lv_at hl 1 rfl) ?_
      refine r_get C K S 0 rfl rfl clOk_Mo 7 (by decide) wf_Mo_29 (v := .ref (ma 5)) rfl d_Mo_knownBehind_35 ?_
      refine lv_aload_n hx hb d_Mo_knownBehind_38 rfl (lv_at hl 1 rfl) ?_
      refine r_get C K S 0 rfl rfl clOk_Mo 9 (by decide) wf_Mo_118 (v := .int (nI (rs.length + 1))) rfl d_Mo_knownBehind_39 ?_
      refine lv_iconst (v := 1) hx hb d_Mo_knownBehind_42 (by decide) ?_
      refine z_isub (x := nI (rs.length + 1)) (y := 1) (v := nI (rs.length + 1 - 1)) hx hb d_Mo_knownBehind_43 (pk_sub (a := (rs.length + 1)) (b := 1) (by omega)) ?_
      refine r_iald C K S 3 rfl (i := nI (rs.length + 1 - 1)) (show vp_in (nI (rs.length + 1 - 1)) _ from vp_in_nI (n := (rs.length + 1 - 1)) (by omega) (by decide)) (v := nI (OP (rs.length + 1 - 1))) (by rw [nI_clamp (by omega)]) d_Mo_knownBehind_44 ?_
      rw [show OP (rs.length + 1 - 1) = p9 from t2]
      refine lv_iconst (v := 1) hx hb d_Mo_knownBehind_45 (by decide) ?_
      refine z_icmp_ne (a := p9) (b := 1) (tgt := 53) hx hb d_Mo_knownBehind_46 (by decide) (by omega) (by omega) (fun hc4 => ?_) (fun hc4 => ?_)
      · refine lv_iconst (v := 0) hx hb d_Mo_knownBehind_53 (by decide) ?_
        refine lv_istore_n (lv' := [(3, .int 0), (2, .int (wdF wd f9 a9)), (0, .ref h0), (1, .int (nI f9))]) hx hb d_Mo_knownBehind_54 rfl hl (by decide) rfl (fun ls hl => ?_)
        refine lv_aload_n hx hb d_Mo_knownBehind_55 rfl (lv_at hl 2 rfl) ?_
        refine r_get C K S 0 rfl rfl clOk_Mo 8 (by decide) wf_Mo_32 (v := .ref (ma 6)) rfl d_Mo_knownBehind_56 ?_
        refine lv_aload_n hx hb d_Mo_knownBehind_59 rfl (lv_at hl 2 rfl) ?_
        refine r_get C K S 0 rfl rfl clOk_Mo 9 (by decide) wf_Mo_118 (v := .int (nI (rs.length + 1))) rfl d_Mo_knownBehind_60 ?_
        refine lv_iconst (v := 1) hx hb d_Mo_knownBehind_63 (by decide) ?_
        refine z_isub (x := nI (rs.length + 1)) (y := 1) (v := nI (rs.length + 1 - 1)) hx hb d_Mo_knownBehind_64 (pk_sub (a := (rs.length + 1)) (b := 1) (by omega)) ?_
        refine r_iald C K S 4 rfl (i := nI (rs.length + 1 - 1)) (show vp_in (nI (rs.length + 1 - 1)) _ from vp_in_nI (n := (rs.length + 1 - 1)) (by omega) (by decide)) (v := nI (OK (rs.length + 1 - 1))) (by rw [nI_clamp (by omega)]) d_Mo_knownBehind_65 ?_
        rw [show OK (rs.length + 1 - 1) = kn9 from t3]
        refine lv_iload_n hx hb d_Mo_knownBehind_66 rfl (lv_at hl 0 rfl) ?_
        refine lv_if_eq (tgt := 74) hx hb d_Mo_knownBehind_67 (by decide) (fun _ => ?_) (fun hq => absurd (by decide) hq)
        refine lv_iconst (v := 0) hx hb d_Mo_knownBehind_74 (by decide) ?_
        refine z_iadd (x := nI kn9) (y := 0) (v := nI kn9) hx hb d_Mo_knownBehind_75 (show _ = nI (kn9) from (nI_add kn9 0).trans (congrArg nI (by omega))) ?_
        exact r_iret C K rfl () ⟨congrArg nI (kb_0 (fun q => hc4 q.2)).symm, trivial⟩ (S.sub [0, 1, 2, 3, 4] (by decide) rfl) d_Mo_knownBehind_76 (Nat.le_of_ble_eq_true rfl) (Nat.le_of_ble_eq_true rfl)
      · refine lv_iconst (v := 1) hx hb d_Mo_knownBehind_49 (by decide) ?_
        refine lv_goto (tgt := 54) hx hb d_Mo_knownBehind_50 (by decide) ?_
        refine lv_istore_n (lv' := [(3, .int 1), (2, .int (wdF wd f9 a9)), (0, .ref h0), (1, .int (nI f9))]) hx hb d_Mo_knownBehind_54 rfl hl (by decide) rfl (fun ls hl => ?_)
        refine lv_aload_n hx hb d_Mo_knownBehind_55 rfl (lv_at hl 2 rfl) ?_
        refine r_get C K S 0 rfl rfl clOk_Mo 8 (by decide) wf_Mo_32 (v := .ref (ma 6)) rfl d_Mo_knownBehind_56 ?_
        refine lv_aload_n hx hb d_Mo_knownBehind_59 rfl (lv_at hl 2 rfl) ?_
        refine r_get C K S 0 rfl rfl clOk_Mo 9 (by decide) wf_Mo_118 (v := .int (nI (rs.length + 1))) rfl d_Mo_knownBehind_60 ?_
        refine lv_iconst (v := 1) hx hb d_Mo_knownBehind_63 (by decide) ?_
        refine z_isub (x := nI (rs.length + 1)) (y := 1) (v := nI (rs.length + 1 - 1)) hx hb d_Mo_knownBehind_64 (pk_sub (a := (rs.length + 1)) (b := 1) (by omega)) ?_
        refine r_iald C K S 4 rfl (i := nI (rs.length + 1 - 1)) (show vp_in (nI (rs.length + 1 - 1)) _ from vp_in_nI (n := (rs.length + 1 - 1)) (by omega) (by decide)) (v := nI (OK (rs.length + 1 - 1))) (by rw [nI_clamp (by omega)]) d_Mo_knownBehind_65 ?_
        rw [show OK (rs.length + 1 - 1) = kn9 from t3]
        refine lv_iload_n hx hb d_Mo_knownBehind_66 rfl (lv_at hl 0 rfl) ?_
        refine lv_if_eq (tgt := 74) hx hb d_Mo_knownBehind_67 (by decide) (fun hq => absurd hq (by decide)) (fun _ => ?_)
        refine lv_iconst (v := 1) hx hb d_Mo_knownBehind_70 (by decide) ?_
        refine lv_goto (tgt := 75) hx hb d_Mo_knownBehind_71 (by decide) ?_
        refine z_iadd (x := nI kn9) (y := 1) (v := nI (kn9 + 1)) hx hb d_Mo_knownBehind_75 (nI_add kn9 1) ?_
        exact r_iret C K rfl () ⟨congrArg nI (kb_1 (Or.inr hc3) hc4).symm, trivial⟩ (S.sub [0, 1, 2, 3, 4] (by decide) rfl) d_Mo_knownBehind_76 (Nat.le_of_ble_eq_true rfl) (Nat.le_of_ble_eq_true rfl)
theorem whV_le {W : Nat → Int32} {cnt kn p b : Nat} (hp : p + 2 ≤ cnt) : ∀ {k : Nat}, whV W cnt kn p k = some b → b ≤ cnt ∧ (∀ j, j < k → p + 2 + j ≤ cnt) ∨ b ≤ cnt
  | 0, h => absurd h (by simp [whV])
  | k + 1, h => by
    right
    rw [whV] at h
    cases h1 : whV W cnt kn p k with
    | some c => rw [h1] at h; injection h with h; subst h; rcases whV_le hp h1 with q | q; exact q.1; exact q
    | none =>
      rw [h1] at h
      have h : (if p + 2 + k = cnt then some cnt else if W (p + 2 + k) < 0 ∨ ¬ W (p + 2 + k) < nI kn then some (p + 2 + k) else none) = some b := h
      have hn := whV_none h1
      have hk : ∀ j, j ≤ k → p + 2 + j ≤ cnt := by
        intro j
        induction j with
        | zero => intro _; omega
        | succ j ih => intro hj; have := ih (by omega); have := (hn j (by omega)).1; omega
      have := hk k (Nat.le_refl _)
      split at h
      · injection h with h; omega
      · split at h
        · injection h with h; omega
        · exact absurd h (by simp)
theorem wh_le {W : Nat → Int32} {tk : Nat → Nat} {nf cnt p kn b : Nat} (h : wh W tk nf cnt p kn = some b) (hp : p < cnt) : b ≤ cnt := by
  unfold wh at h
  split at h
  · injection h with h; omega
  · split at h
    · exact absurd h (by simp)
    · split at h
      · injection h with h; omega
      · split at h
        · split at h
          · injection h with h; omega
          · exact absurd h (by simp)
        · split at h
          · split at h
            · injection h with h; omega
            · exact absurd h (by simp)
          · split at h
            · injection h with h; omega
            · rcases whV_le (by omega) h with q | q; exact q.1; exact q
theorem wh_five {W : Nat → Int32} {tk : Nat → Nat} {nf cnt p kn : Nat} (hnf : nf ≤ 4) (hc : cnt ≤ 200) (h : wh W tk nf cnt p kn = none) (hp : p < cnt) : W p = 5 → p + 1 < 200 ∧ ∃ g, W (p + 1) = nI g ∧ g < 4 := by
  intro h5
  rcases wh_none h with q | ⟨q0, q | q | q⟩
  · rw [h5] at q; exact absurd q (by decide)
  · rw [h5] at q; exact absurd q.1 (by decide)
  · rw [h5] at q; exact absurd q.1 (by decide)
  · have nz : ¬ W (p + 1) < 0 := Int32.not_lt.mpr q.2.1
    exact ⟨by omega, _, (nn_of nz).symm, by have := nn_lt nz (by omega) q.2.2.1; omega⟩
theorem d_Mo_wrong_0 : decode c_Mo_wrong 0 = .ok (.iconst 0, 1) := by decide +kernel
theorem d_Mo_wrong_1 : decode c_Mo_wrong 1 = .ok (.istore_n 2, 1) := by decide +kernel
theorem d_Mo_wrong_2 : decode c_Mo_wrong 2 = .ok (.iconst 0, 1) := by decide +kernel
theorem d_Mo_wrong_3 : decode c_Mo_wrong 3 = .ok (.istore_n 3, 1) := by decide +kernel
theorem d_Mo_wrong_4 : decode c_Mo_wrong 4 = .ok (.aload_n 0, 1) := by decide +kernel
theorem d_Mo_wrong_5 : decode c_Mo_wrong 5 = .ok (.getfield 9, 3) := by decide +kernel
theorem d_Mo_wrong_8 : decode c_Mo_wrong 8 = .ok (.iload_n 1, 1) := by decide +kernel
theorem d_Mo_wrong_9 : decode c_Mo_wrong 9 = .ok (.iaload, 1) := by decide +kernel
theorem d_Mo_wrong_10 : decode c_Mo_wrong 10 = .ok (.istore 4, 2) := by decide +kernel
theorem d_Mo_wrong_12 : decode c_Mo_wrong 12 = .ok (.aload_n 0, 1) := by decide +kernel
theorem d_Mo_wrong_13 : decode c_Mo_wrong 13 = .ok (.iconst 0, 1) := by decide +kernel
theorem d_Mo_wrong_14 : decode c_Mo_wrong 14 = .ok (.putfield 118, 3) := by decide +kernel
theorem d_Mo_wrong_17 : decode c_Mo_wrong 17 = .ok (.iconst 0, 1) := by decide +kernel
theorem d_Mo_wrong_18 : decode c_Mo_wrong 18 = .ok (.istore 5, 2) := by decide +kernel
theorem d_Mo_wrong_20 : decode c_Mo_wrong 20 = .ok (.iload 5, 2) := by decide +kernel
theorem d_Mo_wrong_22 : decode c_Mo_wrong 22 = .ok (.ifCond .ne 126, 3) := by decide +kernel
theorem d_Mo_wrong_25 : decode c_Mo_wrong 25 = .ok (.iload_n 2, 1) := by decide +kernel
theorem d_Mo_wrong_26 : decode c_Mo_wrong 26 = .ok (.aload_n 0, 1) := by decide +kernel
theorem d_Mo_wrong_27 : decode c_Mo_wrong 27 = .ok (.getfield 16, 3) := by decide +kernel
theorem d_Mo_wrong_30 : decode c_Mo_wrong 30 = .ok (.iload_n 1, 1) := by decide +kernel
theorem d_Mo_wrong_31 : decode c_Mo_wrong 31 = .ok (.iaload, 1) := by decide +kernel
theorem d_Mo_wrong_32 : decode c_Mo_wrong 32 = .ok (.if_icmp .ne 5, 3) := by decide +kernel
theorem d_Mo_wrong_35 : decode c_Mo_wrong 35 = .ok (.iload_n 2, 1) := by decide +kernel
theorem d_Mo_wrong_36 : decode c_Mo_wrong 36 = .ok (.ireturn, 1) := by decide +kernel
theorem d_Mo_wrong_37 : decode c_Mo_wrong 37 = .ok (.iload_n 3, 1) := by decide +kernel
theorem d_Mo_wrong_38 : decode c_Mo_wrong 38 = .ok (.bipush 40, 2) := by decide +kernel
theorem d_Mo_wrong_40 : decode c_Mo_wrong 40 = .ok (.if_icmp .eq 12, 3) := by decide +kernel
theorem d_Mo_wrong_43 : decode c_Mo_wrong 43 = .ok (.aload_n 0, 1) := by decide +kernel
theorem d_Mo_wrong_44 : decode c_Mo_wrong 44 = .ok (.getfield 118, 3) := by decide +kernel
theorem d_Mo_wrong_47 : decode c_Mo_wrong 47 = .ok (.bipush 16, 2) := by decide +kernel
theorem d_Mo_wrong_49 : decode c_Mo_wrong 49 = .ok (.if_icmp .ne 5, 3) := by decide +kernel
theorem d_Mo_wrong_52 : decode c_Mo_wrong 52 = .ok (.iload_n 2, 1) := by decide +kernel
theorem d_Mo_wrong_53 : decode c_Mo_wrong 53 = .ok (.ireturn, 1) := by decide +kernel
theorem d_Mo_wrong_54 : decode c_Mo_wrong 54 = .ok (.aload_n 0, 1) := by decide +kernel
theorem d_Mo_wrong_55 : decode c_Mo_wrong 55 = .ok (.iload_n 1, 1) := by decide +kernel
theorem d_Mo_wrong_56 : decode c_Mo_wrong 56 = .ok (.iload_n 2, 1) := by decide +kernel
theorem d_Mo_wrong_57 : decode c_Mo_wrong 57 = .ok (.iload 4, 2) := by decide +kernel
theorem d_Mo_wrong_59 : decode c_Mo_wrong 59 = .ok (.invokevirtual 121, 3) := by decide +kernel
theorem d_Mo_wrong_62 : decode c_Mo_wrong 62 = .ok (.istore 6, 2) := by decide +kernel
theorem d_Mo_wrong_64 : decode c_Mo_wrong 64 = .ok (.iload 6, 2) := by decide +kernel
theorem d_Mo_wrong_66 : decode c_Mo_wrong 66 = .ok (.ifCond .lt 6, 3) := by decide +kernel
theorem d_Mo_wrong_69 : decode c_Mo_wrong 69 = .ok (.iload 6, 2) := by decide +kernel
theorem d_Mo_wrong_71 : decode c_Mo_wrong 71 = .ok (.ireturn, 1) := by decide +kernel
theorem d_Mo_wrong_72 : decode c_Mo_wrong 72 = .ok (.iinc 3 1, 3) := by decide +kernel
theorem d_Mo_wrong_75 : decode c_Mo_wrong 75 = .ok (.aload_n 0, 1) := by decide +kernel
theorem d_Mo_wrong_76 : decode c_Mo_wrong 76 = .ok (.getfield 26, 3) := by decide +kernel
theorem d_Mo_wrong_79 : decode c_Mo_wrong 79 = .ok (.aload_n 0, 1) := by decide +kernel
theorem d_Mo_wrong_80 : decode c_Mo_wrong 80 = .ok (.getfield 118, 3) := by decide +kernel
theorem d_Mo_wrong_83 : decode c_Mo_wrong 83 = .ok (.iload_n 2, 1) := by decide +kernel
theorem d_Mo_wrong_84 : decode c_Mo_wrong 84 = .ok (.iastore, 1) := by decide +kernel
theorem d_Mo_wrong_85 : decode c_Mo_wrong 85 = .ok (.aload_n 0, 1) := by decide +kernel
theorem d_Mo_wrong_86 : decode c_Mo_wrong 86 = .ok (.getfield 29, 3) := by decide +kernel
theorem d_Mo_wrong_89 : decode c_Mo_wrong 89 = .ok (.aload_n 0, 1) := by decide +kernel
theorem d_Mo_wrong_90 : decode c_Mo_wrong 90 = .ok (.getfield 118, 3) := by decide +kernel
theorem d_Mo_wrong_93 : decode c_Mo_wrong 93 = .ok (.iconst 0, 1) := by decide +kernel
theorem d_Mo_wrong_94 : decode c_Mo_wrong 94 = .ok (.iastore, 1) := by decide +kernel
theorem d_Mo_wrong_95 : decode c_Mo_wrong 95 = .ok (.aload_n 0, 1) := by decide +kernel
theorem d_Mo_wrong_96 : decode c_Mo_wrong 96 = .ok (.getfield 32, 3) := by decide +kernel
theorem d_Mo_wrong_99 : decode c_Mo_wrong 99 = .ok (.aload_n 0, 1) := by decide +kernel
theorem d_Mo_wrong_100 : decode c_Mo_wrong 100 = .ok (.getfield 118, 3) := by decide +kernel
theorem d_Mo_wrong_103 : decode c_Mo_wrong 103 = .ok (.iload 4, 2) := by decide +kernel
theorem d_Mo_wrong_105 : decode c_Mo_wrong 105 = .ok (.iastore, 1) := by decide +kernel
theorem d_Mo_wrong_106 : decode c_Mo_wrong 106 = .ok (.aload_n 0, 1) := by decide +kernel
theorem d_Mo_wrong_107 : decode c_Mo_wrong 107 = .ok (.dup, 1) := by decide +kernel
theorem d_Mo_wrong_108 : decode c_Mo_wrong 108 = .ok (.getfield 118, 3) := by decide +kernel
theorem d_Mo_wrong_111 : decode c_Mo_wrong 111 = .ok (.iconst 1, 1) := by decide +kernel
theorem d_Mo_wrong_112 : decode c_Mo_wrong 112 = .ok (.iadd, 1) := by decide +kernel
theorem d_Mo_wrong_113 : decode c_Mo_wrong 113 = .ok (.putfield 118, 3) := by decide +kernel
theorem d_Mo_wrong_116 : decode c_Mo_wrong 116 = .ok (.iload_n 2, 1) := by decide +kernel
theorem d_Mo_wrong_117 : decode c_Mo_wrong 117 = .ok (.aload_n 0, 1) := by decide +kernel
theorem d_Mo_wrong_118 : decode c_Mo_wrong 118 = .ok (.iload_n 1, 1) := by decide +kernel
theorem d_Mo_wrong_119 : decode c_Mo_wrong 119 = .ok (.iload_n 2, 1) := by decide +kernel
theorem d_Mo_wrong_120 : decode c_Mo_wrong 120 = .ok (.invokevirtual 125, 3) := by decide +kernel
theorem d_Mo_wrong_123 : decode c_Mo_wrong 123 = .ok (.iadd, 1) := by decide +kernel
theorem d_Mo_wrong_124 : decode c_Mo_wrong 124 = .ok (.istore_n 2, 1) := by decide +kernel
theorem d_Mo_wrong_125 : decode c_Mo_wrong 125 = .ok (.aload_n 0, 1) := by decide +kernel
theorem d_Mo_wrong_126 : decode c_Mo_wrong 126 = .ok (.iload_n 1, 1) := by decide +kernel
theorem d_Mo_wrong_127 : decode c_Mo_wrong 127 = .ok (.iload_n 2, 1) := by decide +kernel
theorem d_Mo_wrong_128 : decode c_Mo_wrong 128 = .ok (.invokevirtual 129, 3) := by decide +kernel
theorem d_Mo_wrong_131 : decode c_Mo_wrong 131 = .ok (.istore 5, 2) := by decide +kernel
theorem d_Mo_wrong_133 : decode c_Mo_wrong 133 = .ok (.iload 5, 2) := by decide +kernel
theorem d_Mo_wrong_135 : decode c_Mo_wrong 135 = .ok (.ifCond .ne 10, 3) := by decide +kernel
theorem d_Mo_wrong_138 : decode c_Mo_wrong 138 = .ok (.aload_n 0, 1) := by decide +kernel
theorem d_Mo_wrong_139 : decode c_Mo_wrong 139 = .ok (.iload_n 1, 1) := by decide +kernel
theorem d_Mo_wrong_140 : decode c_Mo_wrong 140 = .ok (.invokevirtual 133, 3) := by decide +kernel
theorem d_Mo_wrong_143 : decode c_Mo_wrong 143 = .ok (.istore 4, 2) := by decide +kernel
theorem d_Mo_wrong_145 : decode c_Mo_wrong 145 = .ok (.goto (-125), 3) := by decide +kernel
theorem d_Mo_wrong_148 : decode c_Mo_wrong 148 = .ok (.iload_n 2, 1) := by decide +kernel
theorem d_Mo_wrong_149 : decode c_Mo_wrong 149 = .ok (.aload_n 0, 1) := by decide +kernel
theorem d_Mo_wrong_150 : decode c_Mo_wrong 150 = .ok (.getfield 16, 3) := by decide +kernel
theorem d_Mo_wrong_153 : decode c_Mo_wrong 153 = .ok (.iload_n 1, 1) := by decide +kernel
theorem d_Mo_wrong_154 : decode c_Mo_wrong 154 = .ok (.iaload, 1) := by decide +kernel
theorem d_Mo_wrong_155 : decode c_Mo_wrong 155 = .ok (.if_icmp .ne 7, 3) := by decide +kernel
theorem d_Mo_wrong_158 : decode c_Mo_wrong 158 = .ok (.iconst (-1), 1) := by decide +kernel
theorem d_Mo_wrong_159 : decode c_Mo_wrong 159 = .ok (.goto 4, 3) := by decide +kernel
theorem d_Mo_wrong_162 : decode c_Mo_wrong 162 = .ok (.iload_n 2, 1) := by decide +kernel
theorem d_Mo_wrong_163 : decode c_Mo_wrong 163 = .ok (.ireturn, 1) := by decide +kernel
set_option maxRecDepth 100000 in
set_option maxHeartbeats 16000000 in
/-- wrong(f9) -/
theorem g_Mo_wrong (l : Launch) (G : va_G) (k : Nat → ClassId) (h0 : Nat) (s0 : Nat) (f9 : Nat) (nf : Nat) (ma : Nat → Nat) (iv : Nat → Int32) (co : Int64) (tk : Nat → Nat) (ct : Nat → Nat) (wd : Nat → Int32) (OA : Nat → Nat) (OP : Nat → Nat) (OK : Nat → Nat) (En : Nat → Nat) (hf : f9 < 4) (hct : ct f9 ≤ 200) (hnf : nf ≤ 4) (htk : ∀ g, g < 4 → tk g ≤ 3) : CI l y_Mo_wrong c_Mo_wrong 7 .int { frames := 3, cells := 0, slots := 0, locals := 69 } [.ref h0, .int (nI f9)] G k s0 [(h0, .inr (8, moL ma (va_up iv 0 (nI nf)) co)), ((ma 0), .inl (k 0, 4, .inl (fun i => nI (tk i)))), ((ma 1), .inl (k 0, 800, .inl wd)), ((ma 2), .inl (k 0, 4, .inl (fun i => nI (ct i)))), ((ma 4), .inl (k 0, 20, .inl (fun i => nI (OA i)))), ((ma 5), .inl (k 0, 20, .inl (fun i => nI (OP i)))), ((ma 6), .inl (k 0, 20, .inl (fun i => nI (OK i)))), ((ma 3), .inl (k 0, 800, .inl (fun i => nI (En i))))] (fun (r : Int32) (u : (Nat → Nat → Nat) × Nat) => r = bI (wrR (ct f9) (prs (wdF wd f9) tk nf (ct f9) 16 (tk f9) 0 0 (enF En f9))) ∧ (∀ a2 n2 E2, prs (wdF wd f9) tk nf (ct f9) 16 (tk f9) 0 0 (enF En f9) = .inr (a2, n2, E2) → enF (u.1 3) f9 = E2) ∧ ∀ i, i < 200 * f9 ∨ 200 * f9 + 200 ≤ i → u.1 3 i = En i) (fun u => [(h0, .inr (8, moL ma (va_up (va_up iv 0 (nI nf)) 2 (nI u.2)) co)), ((ma 0), .inl (k 0, 4, .inl (fun i => nI (tk i)))), ((ma 1), .inl (k 0, 800, .inl wd)), ((ma 2), .inl (k 0, 4, .inl (fun i => nI (ct i)))), ((ma 4), .inl (k 0, 20, .inl (fun i => nI (u.1 0 i)))), ((ma 5), .inl (k 0, 20, .inl (fun i => nI (u.1 1 i)))), ((ma 6), .inl (k 0, 20, .inl (fun i => nI (u.1 2 i)))), ((ma 3), .inl (k 0, 800, .inl (fun i => nI (u.1 3 i))))]) 0 0 := by
  refine met_start (by decide) (Nat.le_of_ble_eq_true rfl) ?_
  intro p e s m below meth c C K hA hsz S ls hl
  generalize va_A [(h0, .inr (8, moL ma (va_up iv 0 (nI nf)) co)), ((ma 0), .inl (k 0, 4, .inl (fun i => nI (tk i)))), ((ma 1), .inl (k 0, 800, .inl wd)), ((ma 2), .inl (k 0, 4, .inl (fun i => nI (ct i)))), ((ma 4), .inl (k 0, 20, .inl (fun i => nI (OA i)))), ((ma 5), .inl (k 0, 20, .inl (fun i => nI (OP i)))), ((ma 6), .inl (k 0, 20, .inl (fun i => nI (OK i)))), ((ma 3), .inl (k 0, 800, .inl (fun i => nI (En i))))] s0 = A at hA S ⊢
  have hx := C.1
  have hb := C.2.1
  have hl : lv_has ls 7 [(0, .ref h0), (1, .int (nI f9))] := hl
  obtain ⟨r9, E9, hWL, hr9, hE9⟩ := wl_top (W := (wdF wd f9)) (tk := tk) (nf := nf) (cnt := ct f9) (kn := tk f9) (E := enF En f9)
  refine lv_iconst (v := 0) hx hb d_Mo_wrong_0 (by decide) ?_
  refine lv_istore_n (lv' := [(2, .int 0), (0, .ref h0), (1, .int (nI f9))]) hx hb d_Mo_wrong_1 rfl hl (by decide) rfl (fun ls hl => ?_)
  refine lv_iconst (v := 0) hx hb d_Mo_wrong_2 (by decide) ?_
  refine lv_istore_n (lv' := [(3, .int 0), (2, .int 0), (0, .ref h0), (1, .int (nI f9))]) hx hb d_Mo_wrong_3 rfl hl (by decide) rfl (fun ls hl => ?_)
  refine lv_aload_n hx hb d_Mo_wrong_4 rfl (lv_at hl 2 rfl) ?_
  refine r_get C K S 0 rfl rfl clOk_Mo 1 (by decide) wf_Mo_9 (v := .ref (ma 0)) rfl d_Mo_wrong_5 ?_
  refine lv_iload_n hx hb d_Mo_wrong_8 rfl (lv_at hl 3 rfl) ?_
  refine r_iald C K S 1 rfl (i := nI f9) (show vp_in (nI f9) _ from vp_in_nI (n := f9) (by omega) (by decide)) (v := nI (tk f9)) (by rw [nI_clamp (by omega)]) d_Mo_wrong_9 ?_
  refine lv_istore (lv' := [(4, .int (nI (tk f9))), (3, .int 0), (2, .int 0), (0, .ref h0), (1, .int (nI f9))]) hx hb d_Mo_wrong_10 hl (by decide) rfl (fun ls hl => ?_)
  refine lv_aload_n hx hb d_Mo_wrong_12 rfl (lv_at hl 3 rfl) ?_
  refine lv_iconst (v := 0) hx hb d_Mo_wrong_13 (by decide) ?_
  refine r_put C K S 0 rfl rfl clOk_Mo 9 (by decide) wf_Mo_118 rfl (ty := .int) (v := .int 0) (by decide +kernel) rfl rfl (Nat.le_of_ble_eq_true rfl) (fs' := moL ma (va_up (va_up iv 0 (nI nf)) 2 0) co) (ws' := [(h0, .inr (8, moL ma (va_up (va_up iv 0 (nI nf)) 2 0) co)), ((ma 0), .inl (k 0, 4, .inl (fun i => nI (tk i)))), ((ma 1), .inl (k 0, 800, .inl wd)), ((ma 2), .inl (k 0, 4, .inl (fun i => nI (ct i)))), ((ma 4), .inl (k 0, 20, .inl (fun i => nI (OA i)))), ((ma 5), .inl (k 0, 20, .inl (fun i => nI (OP i)))), ((ma 6), .inl (k 0, 20, .inl (fun i => nI (OK i)))), ((ma 3), .inl (k 0, 800, .inl (fun i => nI (En i))))]) rfl rfl d_Mo_wrong_14 (fun H locs S => ?_)
  refine lv_iconst (v := 0) hx hb d_Mo_wrong_17 (by decide) ?_
  refine lv_istore (lv' := [(5, .int 0), (4, .int (nI (tk f9))), (3, .int 0), (2, .int 0), (0, .ref h0), (1, .int (nI f9))]) hx hb d_Mo_wrong_18 hl (by decide) rfl (fun ls hl => ?_)
  have key : WLc (wdF wd f9) tk nf (ct f9) (fun (at9 nodes kn : Nat) (st : Stk) (E : Nat → Nat) (r8 : Option Nat) (E8 : Nat → Nat) => r8 = r9 ∧ E8 = E9 → nodes ≤ 40 → ∀ OA OP OK En9 : Nat → Nat, enF En9 f9 = E → stO st OA OP OK → stB nodes st → (∀ i, i < 200 * f9 ∨ 200 * f9 + 200 ≤ i → En9 i = En i) → ∀ (H : Heap) (locs : List Loc), Sw G A s.heap H locs [(h0, .inr (8, moL ma (va_up (va_up iv 0 (nI nf)) 2 (nI st.length)) co)), ((ma 0), .inl (k 0, 4, .inl (fun i => nI (tk i)))), ((ma 1), .inl (k 0, 800, .inl wd)), ((ma 2), .inl (k 0, 4, .inl (fun i => nI (ct i)))), ((ma 4), .inl (k 0, 20, .inl (fun i => nI (OA i)))), ((ma 5), .inl (k 0, 20, .inl (fun i => nI (OP i)))), ((ma 6), .inl (k 0, 20, .inl (fun i => nI (OK i)))), ((ma 3), .inl (k 0, 800, .inl (fun i => nI (En9 i))))] → ∀ ls : Array Slot, lv_has ls 7 [(5, .int 0), (4, .int (nI kn)), (3, .int (nI nodes)), (2, .int (nI at9)), (1, .int (nI f9)), (0, .ref h0)] → W p l e { frames := 3, cells := 0, slots := 0, locals := 69 } s m [Value.ref h0, Value.int (nI f9)].toArray below meth c H locs 0 0 (MQ below (va_Qi (fun (r : Int32) (u : (Nat → Nat → Nat) × Nat) => r = bI (wrR (ct f9) (prs (wdF wd f9) tk nf (ct f9) 16 (tk f9) 0 0 (enF En f9))) ∧ (∀ a2 n2 E2, prs (wdF wd f9) tk nf (ct f9) 16 (tk f9) 0 0 (enF En f9) = .inr (a2, n2, E2) → enF (u.1 3) f9 = E2) ∧ ∀ i, i < 200 * f9 ∨ 200 * f9 + 200 ≤ i → u.1 3 i = En i) (Po G k A (fun u => [(h0, .inr (8, moL ma (va_up (va_up iv 0 (nI nf)) 2 (nI u.2)) co)), ((ma 0), .inl (k 0, 4, .inl (fun i => nI (tk i)))), ((ma 1), .inl (k 0, 800, .inl wd)), ((ma 2), .inl (k 0, 4, .inl (fun i => nI (ct i)))), ((ma 4), .inl (k 0, 20, .inl (fun i => nI (u.1 0 i)))), ((ma 5), .inl (k 0, 20, .inl (fun i => nI (u.1 1 i)))), ((ma 6), .inl (k 0, 20, .inl (fun i => nI (u.1 2 i)))), ((ma 3), .inl (k 0, 800, .inl (fun i => nI (u.1 3 i))))])) A) [Value.ref h0, Value.int (nI f9)].toArray s 0 0 A) (F0 m 20 ls [])) := by
    refine ⟨?_, ?_, ?_, ?_⟩
    · intro at9 nodes kn st E hac hstop hrr hno OA OP OK En9 hEn hst hsB hou H locs S ls hl
      refine lv_iload hx hb d_Mo_wrong_20 (lv_at hl 0 rfl) ?_
      refine lv_if_ne (tgt := 148) hx hb d_Mo_wrong_22 (by decide) (fun hq => absurd (by decide) hq) (fun _ => ?_)
      refine lv_iload_n hx hb d_Mo_wrong_25 rfl (lv_at hl 3 rfl) ?_
      refine lv_aload_n hx hb d_Mo_wrong_26 rfl (lv_at hl 5 rfl) ?_
      refine r_get C K S 0 rfl rfl clOk_Mo 3 (by decide) wf_Mo_16 (v := .ref (ma 2)) rfl d_Mo_wrong_27 ?_
      refine lv_iload_n hx hb d_Mo_wrong_30 rfl (lv_at hl 4 rfl) ?_
      refine r_iald C K S 3 rfl (i := nI f9) (show vp_in (nI f9) _ from vp_in_nI (n := f9) (by omega) (by decide)) (v := nI (ct f9)) (by rw [nI_clamp (by omega)]) d_Mo_wrong_31 ?_
      refine z_icmp_ne (a := at9) (b := (ct f9)) (tgt := 37) hx hb d_Mo_wrong_32 (by decide) (by omega) (by omega) (fun hc1 => ?_) (fun hc1 => ?_)
      · refine lv_iload_n hx hb d_Mo_wrong_37 rfl (lv_at hl 2 rfl) ?_
        refine lv_bipush (v := 40) hx hb d_Mo_wrong_38 (by decide) ?_
        refine z_icmp_eq (a := nodes) (b := 40) (tgt := 52) hx hb d_Mo_wrong_40 (by decide) (by omega) (by omega) (fun hc2 => ?_) (fun hc2 => ?_)
        · refine lv_iload_n hx hb d_Mo_wrong_52 rfl (lv_at hl 3 rfl) ?_
          exact r_iret C K rfl (uz [OA, OP, OK, En9], st.length) ⟨by rw [← hr9]; exact congrArg bI hrr.1, fun a2 n2 E2 q => (hEn.trans hrr.2).trans (hE9 a2 n2 E2 q), hou⟩ (S.sub [0, 1, 2, 3, 4, 5, 6, 7] (by decide) rfl) d_Mo_wrong_53 (Nat.le_of_ble_eq_true rfl) (Nat.le_of_ble_eq_true rfl)
        · refine lv_aload_n hx hb d_Mo_wrong_43 rfl (lv_at hl 5 rfl) ?_
          refine r_get C K S 0 rfl rfl clOk_Mo 9 (by decide) wf_Mo_118 (v := .int (nI st.length)) rfl d_Mo_wrong_44 ?_
          refine lv_bipush (v := 16) hx hb d_Mo_wrong_47 (by decide) ?_
          refine z_icmp_ne (a := st.length) (b := 16) (tgt := 54) hx hb d_Mo_wrong_49 (by decide) (by omega) (by omega) (fun hc3 => ?_) (fun hc3 => ?_)
          · exact absurd hstop (by omega)
          · refine lv_iload_n hx hb d_Mo_wrong_52 rfl (lv_at hl 3 rfl) ?_
            exact r_iret C K rfl (uz [OA, OP, OK, En9], st.length) ⟨by rw [← hr9]; exact congrArg bI hrr.1, fun a2 n2 E2 q => (hEn.trans hrr.2).trans (hE9 a2 n2 E2 q), hou⟩ (S.sub [0, 1, 2, 3, 4, 5, 6, 7] (by decide) rfl) d_Mo_wrong_53 (Nat.le_of_ble_eq_true rfl) (Nat.le_of_ble_eq_true rfl)
      · refine lv_iload_n hx hb d_Mo_wrong_35 rfl (lv_at hl 3 rfl) ?_
        exact r_iret C K rfl (uz [OA, OP, OK, En9], st.length) ⟨by rw [← hr9]; exact congrArg bI hrr.1, fun a2 n2 E2 q => (hEn.trans hrr.2).trans (hE9 a2 n2 E2 q), hou⟩ (S.sub [0, 1, 2, 3, 4, 5, 6, 7] (by decide) rfl) d_Mo_wrong_36 (Nat.le_of_ble_eq_true rfl) (Nat.le_of_ble_eq_true rfl)
    · intro at9 nodes kn st E b9 hac hnd hsl hwh hrr hno OA OP OK En9 hEn hst hsB hou H locs S ls hl
      refine lv_iload hx hb d_Mo_wrong_20 (lv_at hl 0 rfl) ?_
      refine lv_if_ne (tgt := 148) hx hb d_Mo_wrong_22 (by decide) (fun hq => absurd (by decide) hq) (fun _ => ?_)
      refine lv_iload_n hx hb d_Mo_wrong_25 rfl (lv_at hl 3 rfl) ?_
      refine lv_aload_n hx hb d_Mo_wrong_26 rfl (lv_at hl 5 rfl) ?_
      refine r_get C K S 0 rfl rfl clOk_Mo 3 (by decide) wf_Mo_16 (v := .ref (ma 2)) rfl d_Mo_wrong_27 ?_
      refine lv_iload_n hx hb d_Mo_wrong_30 rfl (lv_at hl 4 rfl) ?_
      refine r_iald C K S 3 rfl (i := nI f9) (show vp_in (nI f9) _ from vp_in_nI (n := f9) (by omega) (by decide)) (v := nI (ct f9)) (by rw [nI_clamp (by omega)]) d_Mo_wrong_31 ?_
      refine z_icmp_ne (a := at9) (b := (ct f9)) (tgt := 37) hx hb d_Mo_wrong_32 (by decide) (by omega) (by omega) (fun hc4 => ?_) (fun hc4 => False.elim (by omega))
      refine lv_iload_n hx hb d_Mo_wrong_37 rfl (lv_at hl 2 rfl) ?_
      refine lv_bipush (v := 40) hx hb d_Mo_wrong_38 (by decide) ?_
      refine z_icmp_eq (a := nodes) (b := 40) (tgt := 52) hx hb d_Mo_wrong_40 (by decide) (by omega) (by omega) (fun hc5 => False.elim (by omega)) (fun hc5 => ?_)
      refine lv_aload_n hx hb d_Mo_wrong_43 rfl (lv_at hl 5 rfl) ?_
      refine r_get C K S 0 rfl rfl clOk_Mo 9 (by decide) wf_Mo_118 (v := .int (nI st.length)) rfl d_Mo_wrong_44 ?_
      refine lv_bipush (v := 16) hx hb d_Mo_wrong_47 (by decide) ?_
      refine z_icmp_ne (a := st.length) (b := 16) (tgt := 54) hx hb d_Mo_wrong_49 (by decide) (by omega) (by omega) (fun hc6 => ?_) (fun hc6 => False.elim (by omega))
      refine lv_aload_n hx hb d_Mo_wrong_54 rfl (lv_at hl 5 rfl) ?_
      refine lv_iload_n hx hb d_Mo_wrong_55 rfl (lv_at hl 4 rfl) ?_
      refine lv_iload_n hx hb d_Mo_wrong_56 rfl (lv_at hl 3 rfl) ?_
      refine lv_iload hx hb d_Mo_wrong_57 (lv_at hl 1 rfl) ?_
      refine r_backi (wi := [(h0, .inr (8, moL ma (va_up (va_up iv 2 (nI st.length)) 0 (nI nf)) co)), ((ma 0), .inl (k 0, 4, .inl (fun i => nI (tk i)))), ((ma 1), .inl (k 0, 800, .inl wd)), ((ma 2), .inl (k 0, 4, .inl (fun i => nI (ct i))))]) (wr := [((ma 4), .inl (k 0, 20, .inl (fun i => nI (OA i)))), ((ma 5), .inl (k 0, 20, .inl (fun i => nI (OP i)))), ((ma 6), .inl (k 0, 20, .inl (fun i => nI (OK i)))), ((ma 3), .inl (k 0, 800, .inl (fun i => nI (En9 i))))]) S hA [0, 1, 2, 3] [4, 5, 6, 7] rfl rfl (by decide) (by decide) (va_runV (As := [.int (nI f9), .int (nI at9), .int (nI kn)]) (rest := []) ⟨hx, hb, C.2.2.1, C.2.2.2.1, C.2.2.2.2.1⟩ (g_Mo_wrongHead l G k h0 _ f9 at9 kn nf ma (va_up iv 2 (nI st.length)) co tk ct wd hf hac hct hnf htk) (k_virt (n := 3) C wc_Mo_wrongHead rfl rfl wz_Mo wm_Mo_121 wn_Mo_wrongHead ws_Mo_wrongHead (by decide +kernel) ⟨(Nat.le_of_ble_eq_true rfl), (Nat.le_of_ble_eq_true rfl)⟩) (pr_nowV K S [0, 1, 2, 3] (by decide) rfl 0 rfl rfl) rfl rfl hl.1 rfl (lv_room (Nat.le_of_ble_eq_true rfl)) d_Mo_wrong_59 ⟨(Nat.le_of_ble_eq_true rfl), (Nat.le_of_ble_eq_true rfl)⟩) (fun r9 u7 H locs hw8 S => ?_)
      have S : Sw G A s.heap _ _ [((ma 4), .inl (k 0, 20, .inl (fun i => nI (OA i)))), ((ma 5), .inl (k 0, 20, .inl (fun i => nI (OP i)))), ((ma 6), .inl (k 0, 20, .inl (fun i => nI (OK i)))), ((ma 3), .inl (k 0, 800, .inl (fun i => nI (En9 i)))), (h0, .inr (8, moL ma (va_up (va_up iv 2 (nI st.length)) 0 (nI nf)) co)), ((ma 0), .inl (k 0, 4, .inl (fun i => nI (tk i)))), ((ma 1), .inl (k 0, 800, .inl wd)), ((ma 2), .inl (k 0, 4, .inl (fun i => nI (ct i))))] := S
      obtain ⟨hw80, hp10⟩ := hw8
      obtain rfl : r9 = bI (wh (wdF wd f9) tk nf (ct f9) at9 kn) := hw80
      rw [hwh]
      refine lv_istore (lv' := [(6, .int (nI b9)), (5, .int 0), (4, .int (nI kn)), (3, .int (nI nodes)), (2, .int (nI at9)), (1, .int (nI f9)), (0, .ref h0)]) hx hb d_Mo_wrong_62 hl (by decide) rfl (fun ls hl => ?_)
      refine lv_iload hx hb d_Mo_wrong_64 (lv_at hl 0 rfl) ?_
      have hb9 : b9 ≤ ct f9 := wh_le hwh hac
      refine z_if_lt (a := b9) (tgt := 72) hx hb d_Mo_wrong_66 (by decide) (by omega) ?_
      refine lv_iload hx hb d_Mo_wrong_69 (lv_at hl 0 rfl) ?_
      exact r_iret C K rfl (uz [OA, OP, OK, En9], st.length) ⟨by rw [← hr9]; exact congrArg bI hrr.1, fun a2 n2 E2 q => (hEn.trans hrr.2).trans (hE9 a2 n2 E2 q), hou⟩ (S.sub [4, 5, 6, 7, 0, 1, 2, 3] (by decide) rfl) d_Mo_wrong_71 (Nat.le_of_ble_eq_true rfl) (Nat.le_of_ble_eq_true rfl)
    · intro at9 nodes kn st E E2 hac hnd hsl hwh hclo hrr hno OA OP OK En9 hEn hst hsB hou H locs S ls hl
      have hhd := wh_hd hwh hac
      refine lv_iload hx hb d_Mo_wrong_20 (lv_at hl 0 rfl) ?_
      refine lv_if_ne (tgt := 148) hx hb d_Mo_wrong_22 (by decide) (fun hq => absurd (by decide) hq) (fun _ => ?_)
      refine lv_iload_n hx hb d_Mo_wrong_25 rfl (lv_at hl 3 rfl) ?_
      refine lv_aload_n hx hb d_Mo_wrong_26 rfl (lv_at hl 5 rfl) ?_
      refine r_get C K S 0 rfl rfl clOk_Mo 3 (by decide) wf_Mo_16 (v := .ref (ma 2)) rfl d_Mo_wrong_27 ?_
      refine lv_iload_n hx hb d_Mo_wrong_30 rfl (lv_at hl 4 rfl) ?_
      refine r_iald C K S 3 rfl (i := nI f9) (show vp_in (nI f9) _ from vp_in_nI (n := f9) (by omega) (by decide)) (v := nI (ct f9)) (by rw [nI_clamp (by omega)]) d_Mo_wrong_31 ?_
      refine z_icmp_ne (a := at9) (b := (ct f9)) (tgt := 37) hx hb d_Mo_wrong_32 (by decide) (by omega) (by omega) (fun hc11 => ?_) (fun hc11 => False.elim (by omega))
      refine lv_iload_n hx hb d_Mo_wrong_37 rfl (lv_at hl 2 rfl) ?_
      refine lv_bipush (v := 40) hx hb d_Mo_wrong_38 (by decide) ?_
      refine z_icmp_eq (a := nodes) (b := 40) (tgt := 52) hx hb d_Mo_wrong_40 (by decide) (by omega) (by omega) (fun hc12 => False.elim (by omega)) (fun hc12 => ?_)
      refine lv_aload_n hx hb d_Mo_wrong_43 rfl (lv_at hl 5 rfl) ?_
      refine r_get C K S 0 rfl rfl clOk_Mo 9 (by decide) wf_Mo_118 (v := .int (nI st.length)) rfl d_Mo_wrong_44 ?_
      refine lv_bipush (v := 16) hx hb d_Mo_wrong_47 (by decide) ?_
      refine z_icmp_ne (a := st.length) (b := 16) (tgt := 54) hx hb d_Mo_wrong_49 (by decide) (by omega) (by omega) (fun hc13 => ?_) (fun hc13 => False.elim (by omega))
      refine lv_aload_n hx hb d_Mo_wrong_54 rfl (lv_at hl 5 rfl) ?_
      refine lv_iload_n hx hb d_Mo_wrong_55 rfl (lv_at hl 4 rfl) ?_
      refine lv_iload_n hx hb d_Mo_wrong_56 rfl (lv_at hl 3 rfl) ?_
      refine lv_iload hx hb d_Mo_wrong_57 (lv_at hl 1 rfl) ?_
      refine r_backi (wi := [(h0, .inr (8, moL ma (va_up (va_up iv 2 (nI st.length)) 0 (nI nf)) co)), ((ma 0), .inl (k 0, 4, .inl (fun i => nI (tk i)))), ((ma 1), .inl (k 0, 800, .inl wd)), ((ma 2), .inl (k 0, 4, .inl (fun i => nI (ct i))))]) (wr := [((ma 4), .inl (k 0, 20, .inl (fun i => nI (OA i)))), ((ma 5), .inl (k 0, 20, .inl (fun i => nI (OP i)))), ((ma 6), .inl (k 0, 20, .inl (fun i => nI (OK i)))), ((ma 3), .inl (k 0, 800, .inl (fun i => nI (En9 i))))]) S hA [0, 1, 2, 3] [4, 5, 6, 7] rfl rfl (by decide) (by decide) (va_runV (As := [.int (nI f9), .int (nI at9), .int (nI kn)]) (rest := []) ⟨hx, hb, C.2.2.1, C.2.2.2.1, C.2.2.2.2.1⟩ (g_Mo_wrongHead l G k h0 _ f9 at9 kn nf ma (va_up iv 2 (nI st.length)) co tk ct wd hf hac hct hnf htk) (k_virt (n := 3) C wc_Mo_wrongHead rfl rfl wz_Mo wm_Mo_121 wn_Mo_wrongHead ws_Mo_wrongHead (by decide +kernel) ⟨(Nat.le_of_ble_eq_true rfl), (Nat.le_of_ble_eq_true rfl)⟩) (pr_nowV K S [0, 1, 2, 3] (by decide) rfl 0 rfl rfl) rfl rfl hl.1 rfl (lv_room (Nat.le_of_ble_eq_true rfl)) d_Mo_wrong_59 ⟨(Nat.le_of_ble_eq_true rfl), (Nat.le_of_ble_eq_true rfl)⟩) (fun r16 u14 H locs hw15 S => ?_)
      have S : Sw G A s.heap _ _ [((ma 4), .inl (k 0, 20, .inl (fun i => nI (OA i)))), ((ma 5), .inl (k 0, 20, .inl (fun i => nI (OP i)))), ((ma 6), .inl (k 0, 20, .inl (fun i => nI (OK i)))), ((ma 3), .inl (k 0, 800, .inl (fun i => nI (En9 i)))), (h0, .inr (8, moL ma (va_up (va_up iv 2 (nI st.length)) 0 (nI nf)) co)), ((ma 0), .inl (k 0, 4, .inl (fun i => nI (tk i)))), ((ma 1), .inl (k 0, 800, .inl wd)), ((ma 2), .inl (k 0, 4, .inl (fun i => nI (ct i))))] := S
      obtain ⟨hw150, hp17⟩ := hw15
      obtain rfl : r16 = bI (wh (wdF wd f9) tk nf (ct f9) at9 kn) := hw150
      rw [hwh]
      show W _ _ _ _ _ _ _ _ _ _ _ _ _ _ _ (F0 m _ ls [.int (-1)])
      refine lv_istore (lv' := [(6, .int (-1)), (5, .int 0), (4, .int (nI kn)), (3, .int (nI nodes)), (2, .int (nI at9)), (1, .int (nI f9)), (0, .ref h0)]) hx hb d_Mo_wrong_62 hl (by decide) rfl (fun ls hl => ?_)
      refine lv_iload hx hb d_Mo_wrong_64 (lv_at hl 0 rfl) ?_
      refine lv_if_lt (tgt := 72) hx hb d_Mo_wrong_66 (by decide) (fun _ => ?_) (fun hq => absurd (by decide) hq)
      refine lv_iinc (v := nI (nodes + 1)) (lv' := [(3, .int (nI (nodes + 1))), (6, .int (-1)), (5, .int 0), (4, .int (nI kn)), (2, .int (nI at9)), (1, .int (nI f9)), (0, .ref h0)]) hx hb d_Mo_wrong_72 hl (k := 3) rfl (show nI nodes + Int32.ofInt 1 = nI (nodes + 1) from (nI_add nodes 1).trans (congrArg nI (by omega))) (by decide) rfl (fun ls hl => ?_)
      refine lv_aload_n hx hb d_Mo_wrong_75 rfl (lv_at hl 6 rfl) ?_
      refine r_get C K S 4 rfl rfl clOk_Mo 6 (by decide) wf_Mo_26 (v := .ref (ma 4)) rfl d_Mo_wrong_76 ?_
      refine lv_aload_n hx hb d_Mo_wrong_79 rfl (lv_at hl 6 rfl) ?_
      refine r_get C K S 4 rfl rfl clOk_Mo 9 (by decide) wf_Mo_118 (v := .int (nI st.length)) rfl d_Mo_wrong_80 ?_
      refine lv_iload_n hx hb d_Mo_wrong_83 rfl (lv_at hl 4 rfl) ?_
      refine r_iast C K S 0 rfl (i := nI st.length) (x := nI at9) (show vp_in (nI st.length) _ from vp_in_nI (n := st.length) (by omega) (by decide)) (f' := fun i => nI (va_up OA st.length at9 i)) (ws' := [((ma 4), .inl (k 0, 20, .inl (fun i => nI (va_up OA st.length at9 i)))), ((ma 5), .inl (k 0, 20, .inl (fun i => nI (OP i)))), ((ma 6), .inl (k 0, 20, .inl (fun i => nI (OK i)))), ((ma 3), .inl (k 0, 800, .inl (fun i => nI (En9 i)))), (h0, .inr (8, moL ma (va_up (va_up iv 2 (nI st.length)) 0 (nI nf)) co)), ((ma 0), .inl (k 0, 4, .inl (fun i => nI (tk i)))), ((ma 1), .inl (k 0, 800, .inl wd)), ((ma 2), .inl (k 0, 4, .inl (fun i => nI (ct i))))]) (show upd _ (nI st.length : Int32).toNatClampNeg (nI at9) = _ from upd_nI OA (j := st.length) (by omega) at9) rfl d_Mo_wrong_84 (fun H locs S => ?_)
      refine lv_aload_n hx hb d_Mo_wrong_85 rfl (lv_at hl 6 rfl) ?_
      refine r_get C K S 4 rfl rfl clOk_Mo 7 (by decide) wf_Mo_29 (v := .ref (ma 5)) rfl d_Mo_wrong_86 ?_
      refine lv_aload_n hx hb d_Mo_wrong_89 rfl (lv_at hl 6 rfl) ?_
      refine r_get C K S 4 rfl rfl clOk_Mo 9 (by decide) wf_Mo_118 (v := .int (nI st.length)) rfl d_Mo_wrong_90 ?_
      refine lv_iconst (v := 0) hx hb d_Mo_wrong_93 (by decide) ?_
      refine r_iast C K S 1 rfl (i := nI st.length) (x := 0) (show vp_in (nI st.length) _ from vp_in_nI (n := st.length) (by omega) (by decide)) (f' := fun i => nI (va_up OP st.length 0 i)) (ws' := [((ma 4), .inl (k 0, 20, .inl (fun i => nI (va_up OA st.length at9 i)))), ((ma 5), .inl (k 0, 20, .inl (fun i => nI (va_up OP st.length 0 i)))), ((ma 6), .inl (k 0, 20, .inl (fun i => nI (OK i)))), ((ma 3), .inl (k 0, 800, .inl (fun i => nI (En9 i)))), (h0, .inr (8, moL ma (va_up (va_up iv 2 (nI st.length)) 0 (nI nf)) co)), ((ma 0), .inl (k 0, 4, .inl (fun i => nI (tk i)))), ((ma 1), .inl (k 0, 800, .inl wd)), ((ma 2), .inl (k 0, 4, .inl (fun i => nI (ct i))))]) (show upd _ (nI st.length : Int32).toNatClampNeg 0 = _ from upd_nI OP (j := st.length) (by omega) 0) rfl d_Mo_wrong_94 (fun H locs S => ?_)
      refine lv_aload_n hx hb d_Mo_wrong_95 rfl (lv_at hl 6 rfl) ?_
      refine r_get C K S 4 rfl rfl clOk_Mo 8 (by decide) wf_Mo_32 (v := .ref (ma 6)) rfl d_Mo_wrong_96 ?_
      refine lv_aload_n hx hb d_Mo_wrong_99 rfl (lv_at hl 6 rfl) ?_
      refine r_get C K S 4 rfl rfl clOk_Mo 9 (by decide) wf_Mo_118 (v := .int (nI st.length)) rfl d_Mo_wrong_100 ?_
      refine lv_iload hx hb d_Mo_wrong_103 (lv_at hl 3 rfl) ?_
      refine r_iast C K S 2 rfl (i := nI st.length) (x := nI kn) (show vp_in (nI st.length) _ from vp_in_nI (n := st.length) (by omega) (by decide)) (f' := fun i => nI (va_up OK st.length kn i)) (ws' := [((ma 4), .inl (k 0, 20, .inl (fun i => nI (va_up OA st.length at9 i)))), ((ma 5), .inl (k 0, 20, .inl (fun i => nI (va_up OP st.length 0 i)))), ((ma 6), .inl (k 0, 20, .inl (fun i => nI (va_up OK st.length kn i)))), ((ma 3), .inl (k 0, 800, .inl (fun i => nI (En9 i)))), (h0, .inr (8, moL ma (va_up (va_up iv 2 (nI st.length)) 0 (nI nf)) co)), ((ma 0), .inl (k 0, 4, .inl (fun i => nI (tk i)))), ((ma 1), .inl (k 0, 800, .inl wd)), ((ma 2), .inl (k 0, 4, .inl (fun i => nI (ct i))))]) (show upd _ (nI st.length : Int32).toNatClampNeg (nI kn) = _ from upd_nI OK (j := st.length) (by omega) kn) rfl d_Mo_wrong_105 (fun H locs S => ?_)
      refine lv_aload_n hx hb d_Mo_wrong_106 rfl (lv_at hl 6 rfl) ?_
      refine lv_dup hx hb d_Mo_wrong_107 rfl ?_
      refine r_get C K S 4 rfl rfl clOk_Mo 9 (by decide) wf_Mo_118 (v := .int (nI st.length)) rfl d_Mo_wrong_108 ?_
      refine lv_iconst (v := 1) hx hb d_Mo_wrong_111 (by decide) ?_
      refine z_iadd (x := nI st.length) (y := 1) (v := nI (st.length + 1)) hx hb d_Mo_wrong_112 (nI_add st.length 1) ?_
      refine r_put C K S 4 rfl rfl clOk_Mo 9 (by decide) wf_Mo_118 rfl (ty := .int) (v := .int (nI (st.length + 1))) (by decide +kernel) rfl rfl (Nat.le_of_ble_eq_true rfl) (fs' := moL ma (va_up (va_up iv 0 (nI nf)) 2 (nI (st.length + 1))) co) (ws' := [((ma 4), .inl (k 0, 20, .inl (fun i => nI (va_up OA st.length at9 i)))), ((ma 5), .inl (k 0, 20, .inl (fun i => nI (va_up OP st.length 0 i)))), ((ma 6), .inl (k 0, 20, .inl (fun i => nI (va_up OK st.length kn i)))), ((ma 3), .inl (k 0, 800, .inl (fun i => nI (En9 i)))), (h0, .inr (8, moL ma (va_up (va_up iv 0 (nI nf)) 2 (nI (st.length + 1))) co)), ((ma 0), .inl (k 0, 4, .inl (fun i => nI (tk i)))), ((ma 1), .inl (k 0, 800, .inl wd)), ((ma 2), .inl (k 0, 4, .inl (fun i => nI (ct i))))]) rfl rfl d_Mo_wrong_113 (fun H locs S => ?_)
      refine lv_iload_n hx hb d_Mo_wrong_116 rfl (lv_at hl 4 rfl) ?_
      refine lv_aload_n hx hb d_Mo_wrong_117 rfl (lv_at hl 6 rfl) ?_
      refine lv_iload_n hx hb d_Mo_wrong_118 rfl (lv_at hl 5 rfl) ?_
      refine lv_iload_n hx hb d_Mo_wrong_119 rfl (lv_at hl 4 rfl) ?_
      refine r_backi (wi := [(h0, .inr (8, moL ma (va_up (va_up iv 0 (nI nf)) 2 (nI (st.length + 1))) co)), ((ma 0), .inl (k 0, 4, .inl (fun i => nI (tk i)))), ((ma 1), .inl (k 0, 800, .inl wd))]) (wr := [((ma 4), .inl (k 0, 20, .inl (fun i => nI (va_up OA st.length at9 i)))), ((ma 5), .inl (k 0, 20, .inl (fun i => nI (va_up OP st.length 0 i)))), ((ma 6), .inl (k 0, 20, .inl (fun i => nI (va_up OK st.length kn i)))), ((ma 3), .inl (k 0, 800, .inl (fun i => nI (En9 i)))), ((ma 2), .inl (k 0, 4, .inl (fun i => nI (ct i))))]) S hA [4, 5, 6] [0, 1, 2, 3, 7] rfl rfl (by decide) (by decide) (va_runV (As := [.int (nI f9), .int (nI at9)]) (rest := [.int (nI at9)]) ⟨hx, hb, C.2.2.1, C.2.2.2.1, C.2.2.2.2.1⟩ (g_Mo_headOf l G k h0 _ f9 at9 ma (va_up (va_up iv 0 (nI nf)) 2 (nI (st.length + 1))) co tk wd hf (by omega) (wh_five hnf hct hwh hac) htk) (k_virt (n := 2) C wc_Mo_headOf rfl rfl wz_Mo wm_Mo_125 wn_Mo_headOf ws_Mo_headOf (by decide +kernel) ⟨(Nat.le_of_ble_eq_true rfl), (Nat.le_of_ble_eq_true rfl)⟩) (pr_nowV K S [4, 5, 6] (by decide) rfl 4 rfl rfl) rfl rfl hl.1 rfl (lv_room (Nat.le_of_ble_eq_true rfl)) d_Mo_wrong_120 ⟨(Nat.le_of_ble_eq_true rfl), (Nat.le_of_ble_eq_true rfl)⟩) (fun r20 u18 H locs hw19 S => ?_)
      have S : Sw G A s.heap _ _ [((ma 4), .inl (k 0, 20, .inl (fun i => nI (va_up OA st.length at9 i)))), ((ma 5), .inl (k 0, 20, .inl (fun i => nI (va_up OP st.length 0 i)))), ((ma 6), .inl (k 0, 20, .inl (fun i => nI (va_up OK st.length kn i)))), ((ma 3), .inl (k 0, 800, .inl (fun i => nI (En9 i)))), ((ma 2), .inl (k 0, 4, .inl (fun i => nI (ct i)))), (h0, .inr (8, moL ma (va_up (va_up iv 0 (nI nf)) 2 (nI (st.length + 1))) co)), ((ma 0), .inl (k 0, 4, .inl (fun i => nI (tk i)))), ((ma 1), .inl (k 0, 800, .inl wd))] := S
      obtain ⟨hw190, hp21⟩ := hw19
      obtain rfl : r20 = nI (hdN (wdF wd f9) tk at9) := hw190
      refine z_iadd (x := nI at9) (y := nI (hdN (wdF wd f9) tk at9)) (v := nI (at9 + hdN (wdF wd f9) tk at9)) hx hb d_Mo_wrong_123 (nI_add at9 (hdN (wdF wd f9) tk at9)) ?_
      refine lv_istore_n (lv' := [(2, .int (nI (at9 + hdN (wdF wd f9) tk at9))), (3, .int (nI (nodes + 1))), (6, .int (-1)), (5, .int 0), (4, .int (nI kn)), (1, .int (nI f9)), (0, .ref h0)]) hx hb d_Mo_wrong_124 rfl hl (by decide) rfl (fun ls hl => ?_)
      refine lv_aload_n hx hb d_Mo_wrong_125 rfl (lv_at hl 6 rfl) ?_
      refine lv_iload_n hx hb d_Mo_wrong_126 rfl (lv_at hl 5 rfl) ?_
      refine lv_iload_n hx hb d_Mo_wrong_127 rfl (lv_at hl 0 rfl) ?_
      have hs2 : stO ((at9, 0, kn) :: st) (va_up OA st.length at9) (va_up OP st.length 0) (va_up OK st.length kn) := ⟨va_up_self _ _ _, va_up_self _ _ _, va_up_self _ _ _, stO_congr (fun i hi => ⟨va_up_ne _ _ (by omega), va_up_ne _ _ (by omega), va_up_ne _ _ (by omega)⟩) hst⟩
      have hb2 : stB nodes ((at9, 0, kn) :: st) := ⟨by omega, Nat.zero_le _, hsB⟩
      refine r_backi (wi := [(h0, .inr (8, moL ma (va_up (va_up iv 0 (nI nf)) 2 (nI ((at9, 0, kn) :: st).length)) co)), ((ma 1), .inl (k 0, 800, .inl wd)), ((ma 4), .inl (k 0, 20, .inl (fun i => nI (va_up OA st.length at9 i)))), ((ma 5), .inl (k 0, 20, .inl (fun i => nI (va_up OP st.length 0 i)))), ((ma 6), .inl (k 0, 20, .inl (fun i => nI (va_up OK st.length kn i)))), ((ma 3), .inl (k 0, 800, .inl (fun i => nI (En9 i))))]) (wr := [((ma 2), .inl (k 0, 4, .inl (fun i => nI (ct i)))), ((ma 0), .inl (k 0, 4, .inl (fun i => nI (tk i))))]) S hA [5, 7, 0, 1, 2, 3] [4, 6] rfl rfl (by decide) (by decide) (va_runV (As := [.int (nI f9), .int (nI (at9 + hdN (wdF wd f9) tk at9))]) (rest := []) ⟨hx, hb, C.2.2.1, C.2.2.2.1, C.2.2.2.2.1⟩ (g_Mo_close l G k h0 _ f9 (at9 + hdN (wdF wd f9) tk at9) nodes ((at9, 0, kn) :: st) ma (va_up iv 0 (nI nf)) co wd (va_up OA st.length at9) (va_up OP st.length 0) (va_up OK st.length kn) En9 hf (by omega) hs2 hb2 (by omega) (show st.length + 1 ≤ 18 by omega)) (k_virt (n := 2) C wc_Mo_close rfl rfl wz_Mo wm_Mo_129 wn_Mo_close ws_Mo_close (by decide +kernel) ⟨(Nat.le_of_ble_eq_true rfl), (Nat.le_of_ble_eq_true rfl)⟩) (pr_nowV K S [5, 7, 0, 1, 2, 3] (by decide) rfl 5 rfl rfl) rfl rfl hl.1 rfl (lv_room (Nat.le_of_ble_eq_true rfl)) d_Mo_wrong_128 ⟨(Nat.le_of_ble_eq_true rfl), (Nat.le_of_ble_eq_true rfl)⟩) (fun r23 cu H locs hw22 S => ?_)
      have S : Sw G A s.heap _ _ [((ma 2), .inl (k 0, 4, .inl (fun i => nI (ct i)))), ((ma 0), .inl (k 0, 4, .inl (fun i => nI (tk i)))), (h0, .inr (8, moL ma (va_up (va_up iv 0 (nI nf)) 2 (nI cu.2.2.length)) co)), ((ma 1), .inl (k 0, 800, .inl wd)), ((ma 4), .inl (k 0, 20, .inl (fun i => nI ((va_up OA st.length at9) i)))), ((ma 5), .inl (k 0, 20, .inl (fun i => nI (cu.1 i)))), ((ma 6), .inl (k 0, 20, .inl (fun i => nI ((va_up OK st.length kn) i)))), ((ma 3), .inl (k 0, 800, .inl (fun i => nI (cu.2.1 i))))] := S
      obtain ⟨hw220, ⟨hq1, hq2, hq3, hq4, hq5⟩⟩ := hw22
      obtain rfl : r23 = nI (if cu.2.2 = [] then 1 else 0) := hw220
      rw [← hEn] at hclo
      have hcz := hq1.symm.trans hclo
      have hcz1 : cu.2.2 = [] := congrArg Prod.fst hcz
      have hcz2 : enF cu.2.1 f9 = _ := congrArg Prod.snd hcz
      rw [if_pos hcz1]
      show W _ _ _ _ _ _ _ _ _ _ _ _ _ _ _ (F0 m _ ls [.int 1])
      refine lv_istore (lv' := [(5, .int 1), (2, .int (nI (at9 + hdN (wdF wd f9) tk at9))), (3, .int (nI (nodes + 1))), (6, .int (-1)), (4, .int (nI kn)), (1, .int (nI f9)), (0, .ref h0)]) hx hb d_Mo_wrong_131 hl (by decide) rfl (fun ls hl => ?_)
      refine lv_iload hx hb d_Mo_wrong_133 (lv_at hl 0 rfl) ?_
      refine lv_if_ne (tgt := 145) hx hb d_Mo_wrong_135 (by decide) (fun _ => ?_) (fun hq => absurd hq (by decide))
      refine lv_goto (tgt := 20) hx hb d_Mo_wrong_145 (by decide) ?_
      refine lv_iload hx hb d_Mo_wrong_20 (lv_at hl 0 rfl) ?_
      refine lv_if_ne (tgt := 148) hx hb d_Mo_wrong_22 (by decide) (fun _ => ?_) (fun hq => absurd hq (by decide))
      refine lv_iload_n hx hb d_Mo_wrong_148 rfl (lv_at hl 1 rfl) ?_
      refine lv_aload_n hx hb d_Mo_wrong_149 rfl (lv_at hl 6 rfl) ?_
      refine r_get C K S 2 rfl rfl clOk_Mo 3 (by decide) wf_Mo_16 (v := .ref (ma 2)) rfl d_Mo_wrong_150 ?_
      refine lv_iload_n hx hb d_Mo_wrong_153 rfl (lv_at hl 5 rfl) ?_
      refine r_iald C K S 0 rfl (i := nI f9) (show vp_in (nI f9) _ from vp_in_nI (n := f9) (by omega) (by decide)) (v := nI (ct f9)) (by rw [nI_clamp (by omega)]) d_Mo_wrong_154 ?_
      refine z_icmp_ne (a := (at9 + hdN (wdF wd f9) tk at9)) (b := (ct f9)) (tgt := 162) hx hb d_Mo_wrong_155 (by decide) (by omega) (by omega) (fun hc24 => ?_) (fun hc24 => ?_)
      · refine lv_iload_n hx hb d_Mo_wrong_162 rfl (lv_at hl 1 rfl) ?_
        exact r_iret C K rfl (uz [va_up OA st.length at9, cu.1, va_up OK st.length kn, cu.2.1], cu.2.2.length) ⟨by rw [← hr9, ← hrr.1]; rw [if_neg hc24]; rfl, fun a2 n2 E2 q => (hcz2.trans hrr.2).trans (hE9 a2 n2 E2 q), fun i hi => (hq5 i hi).trans (hou i hi)⟩ (S.sub [2, 1, 3, 0, 4, 5, 6, 7] (by decide) rfl) d_Mo_wrong_163 (Nat.le_of_ble_eq_true rfl) (Nat.le_of_ble_eq_true rfl)
      · refine lv_iconst (v := (-1)) hx hb d_Mo_wrong_158 (by decide) ?_
        refine lv_goto (tgt := 163) hx hb d_Mo_wrong_159 (by decide) ?_
        exact r_iret C K rfl (uz [va_up OA st.length at9, cu.1, va_up OK st.length kn, cu.2.1], cu.2.2.length) ⟨by rw [← hr9, ← hrr.1]; rw [if_pos hc24]; rfl, fun a2 n2 E2 q => (hcz2.trans hrr.2).trans (hE9 a2 n2 E2 q), fun i hi => (hq5 i hi).trans (hou i hi)⟩ (S.sub [2, 1, 3, 0, 4, 5, 6, 7] (by decide) rfl) d_Mo_wrong_163 (Nat.le_of_ble_eq_true rfl) (Nat.le_of_ble_eq_true rfl)
    · intro at9 nodes kn st st2 E E2 E3 r8 hac hnd hsl hwh hclo hne hP hrr hno OA OP OK En9 hEn hst hsB hou H locs S ls hl
      have hhd := wh_hd hwh hac
      refine lv_iload hx hb d_Mo_wrong_20 (lv_at hl 0 rfl) ?_
      refine lv_if_ne (tgt := 148) hx hb d_Mo_wrong_22 (by decide) (fun hq => absurd (by decide) hq) (fun _ => ?_)
      refine lv_iload_n hx hb d_Mo_wrong_25 rfl (lv_at hl 3 rfl) ?_
      refine lv_aload_n hx hb d_Mo_wrong_26 rfl (lv_at hl 5 rfl) ?_
      refine r_get C K S 0 rfl rfl clOk_Mo 3 (by decide) wf_Mo_16 (v := .ref (ma 2)) rfl d_Mo_wrong_27 ?_
      refine lv_iload_n hx hb d_Mo_wrong_30 rfl (lv_at hl 4 rfl) ?_
      refine r_iald C K S 3 rfl (i := nI f9) (show vp_in (nI f9) _ from vp_in_nI (n := f9) (by omega) (by decide)) (v := nI (ct f9)) (by rw [nI_clamp (by omega)]) d_Mo_wrong_31 ?_
      refine z_icmp_ne (a := at9) (b := (ct f9)) (tgt := 37) hx hb d_Mo_wrong_32 (by decide) (by omega) (by omega) (fun hc25 => ?_) (fun hc25 => False.elim (by omega))
      refine lv_iload_n hx hb d_Mo_wrong_37 rfl (lv_at hl 2 rfl) ?_
      refine lv_bipush (v := 40) hx hb d_Mo_wrong_38 (by decide) ?_
      refine z_icmp_eq (a := nodes) (b := 40) (tgt := 52) hx hb d_Mo_wrong_40 (by decide) (by omega) (by omega) (fun hc26 => False.elim (by omega)) (fun hc26 => ?_)
      refine lv_aload_n hx hb d_Mo_wrong_43 rfl (lv_at hl 5 rfl) ?_
      refine r_get C K S 0 rfl rfl clOk_Mo 9 (by decide) wf_Mo_118 (v := .int (nI st.length)) rfl d_Mo_wrong_44 ?_
      refine lv_bipush (v := 16) hx hb d_Mo_wrong_47 (by decide) ?_
      refine z_icmp_ne (a := st.length) (b := 16) (tgt := 54) hx hb d_Mo_wrong_49 (by decide) (by omega) (by omega) (fun hc27 => ?_) (fun hc27 => False.elim (by omega))
      refine lv_aload_n hx hb d_Mo_wrong_54 rfl (lv_at hl 5 rfl) ?_
      refine lv_iload_n hx hb d_Mo_wrong_55 rfl (lv_at hl 4 rfl) ?_
      refine lv_iload_n hx hb d_Mo_wrong_56 rfl (lv_at hl 3 rfl) ?_
      refine lv_iload hx hb d_Mo_wrong_57 (lv_at hl 1 rfl) ?_
      refine r_backi (wi := [(h0, .inr (8, moL ma (va_up (va_up iv 2 (nI st.length)) 0 (nI nf)) co)), ((ma 0), .inl (k 0, 4, .inl (fun i => nI (tk i)))), ((ma 1), .inl (k 0, 800, .inl wd)), ((ma 2), .inl (k 0, 4, .inl (fun i => nI (ct i))))]) (wr := [((ma 4), .inl (k 0, 20, .inl (fun i => nI (OA i)))), ((ma 5), .inl (k 0, 20, .inl (fun i => nI (OP i)))), ((ma 6), .inl (k 0, 20, .inl (fun i => nI (OK i)))), ((ma 3), .inl (k 0, 800, .inl (fun i => nI (En9 i))))]) S hA [0, 1, 2, 3] [4, 5, 6, 7] rfl rfl (by decide) (by decide) (va_runV (As := [.int (nI f9), .int (nI at9), .int (nI kn)]) (rest := []) ⟨hx, hb, C.2.2.1, C.2.2.2.1, C.2.2.2.2.1⟩ (g_Mo_wrongHead l G k h0 _ f9 at9 kn nf ma (va_up iv 2 (nI st.length)) co tk ct wd hf hac hct hnf htk) (k_virt (n := 3) C wc_Mo_wrongHead rfl rfl wz_Mo wm_Mo_121 wn_Mo_wrongHead ws_Mo_wrongHead (by decide +kernel) ⟨(Nat.le_of_ble_eq_true rfl), (Nat.le_of_ble_eq_true rfl)⟩) (pr_nowV K S [0, 1, 2, 3] (by decide) rfl 0 rfl rfl) rfl rfl hl.1 rfl (lv_room (Nat.le_of_ble_eq_true rfl)) d_Mo_wrong_59 ⟨(Nat.le_of_ble_eq_true rfl), (Nat.le_of_ble_eq_true rfl)⟩) (fun r30 u28 H locs hw29 S => ?_)
      have S : Sw G A s.heap _ _ [((ma 4), .inl (k 0, 20, .inl (fun i => nI (OA i)))), ((ma 5), .inl (k 0, 20, .inl (fun i => nI (OP i)))), ((ma 6), .inl (k 0, 20, .inl (fun i => nI (OK i)))), ((ma 3), .inl (k 0, 800, .inl (fun i => nI (En9 i)))), (h0, .inr (8, moL ma (va_up (va_up iv 2 (nI st.length)) 0 (nI nf)) co)), ((ma 0), .inl (k 0, 4, .inl (fun i => nI (tk i)))), ((ma 1), .inl (k 0, 800, .inl wd)), ((ma 2), .inl (k 0, 4, .inl (fun i => nI (ct i))))] := S
      obtain ⟨hw290, hp31⟩ := hw29
      obtain rfl : r30 = bI (wh (wdF wd f9) tk nf (ct f9) at9 kn) := hw290
      rw [hwh]
      show W _ _ _ _ _ _ _ _ _ _ _ _ _ _ _ (F0 m _ ls [.int (-1)])
      refine lv_istore (lv' := [(6, .int (-1)), (5, .int 0), (4, .int (nI kn)), (3, .int (nI nodes)), (2, .int (nI at9)), (1, .int (nI f9)), (0, .ref h0)]) hx hb d_Mo_wrong_62 hl (by decide) rfl (fun ls hl => ?_)
      refine lv_iload hx hb d_Mo_wrong_64 (lv_at hl 0 rfl) ?_
      refine lv_if_lt (tgt := 72) hx hb d_Mo_wrong_66 (by decide) (fun _ => ?_) (fun hq => absurd (by decide) hq)
      refine lv_iinc (v := nI (nodes + 1)) (lv' := [(3, .int (nI (nodes + 1))), (6, .int (-1)), (5, .int 0), (4, .int (nI kn)), (2, .int (nI at9)), (1, .int (nI f9)), (0, .ref h0)]) hx hb d_Mo_wrong_72 hl (k := 3) rfl (show nI nodes + Int32.ofInt 1 = nI (nodes + 1) from (nI_add nodes 1).trans (congrArg nI (by omega))) (by decide) rfl (fun ls hl => ?_)
      refine lv_aload_n hx hb d_Mo_wrong_75 rfl (lv_at hl 6 rfl) ?_
      refine r_get C K S 4 rfl rfl clOk_Mo 6 (by decide) wf_Mo_26 (v := .ref (ma 4)) rfl d_Mo_wrong_76 ?_
      refine lv_aload_n hx hb d_Mo_wrong_79 rfl (lv_at hl 6 rfl) ?_
      refine r_get C K S 4 rfl rfl clOk_Mo 9 (by decide) wf_Mo_118 (v := .int (nI st.length)) rfl d_Mo_wrong_80 ?_
      refine lv_iload_n hx hb d_Mo_wrong_83 rfl (lv_at hl 4 rfl) ?_
      refine r_iast C K S 0 rfl (i := nI st.length) (x := nI at9) (show vp_in (nI st.length) _ from vp_in_nI (n := st.length) (by omega) (by decide)) (f' := fun i => nI (va_up OA st.length at9 i)) (ws' := [((ma 4), .inl (k 0, 20, .inl (fun i => nI (va_up OA st.length at9 i)))), ((ma 5), .inl (k 0, 20, .inl (fun i => nI (OP i)))), ((ma 6), .inl (k 0, 20, .inl (fun i => nI (OK i)))), ((ma 3), .inl (k 0, 800, .inl (fun i => nI (En9 i)))), (h0, .inr (8, moL ma (va_up (va_up iv 2 (nI st.length)) 0 (nI nf)) co)), ((ma 0), .inl (k 0, 4, .inl (fun i => nI (tk i)))), ((ma 1), .inl (k 0, 800, .inl wd)), ((ma 2), .inl (k 0, 4, .inl (fun i => nI (ct i))))]) (show upd _ (nI st.length : Int32).toNatClampNeg (nI at9) = _ from upd_nI OA (j := st.length) (by omega) at9) rfl d_Mo_wrong_84 (fun H locs S => ?_)
      refine lv_aload_n hx hb d_Mo_wrong_85 rfl (lv_at hl 6 rfl) ?_
      refine r_get C K S 4 rfl rfl clOk_Mo 7 (by decide) wf_Mo_29 (v := .ref (ma 5)) rfl d_Mo_wrong_86 ?_
      refine lv_aload_n hx hb d_Mo_wrong_89 rfl (lv_at hl 6 rfl) ?_
      refine r_get C K S 4 rfl rfl clOk_Mo 9 (by decide) wf_Mo_118 (v := .int (nI st.length)) rfl d_Mo_wrong_90 ?_
      refine lv_iconst (v := 0) hx hb d_Mo_wrong_93 (by decide) ?_
      refine r_iast C K S 1 rfl (i := nI st.length) (x := 0) (show vp_in (nI st.length) _ from vp_in_nI (n := st.length) (by omega) (by decide)) (f' := fun i => nI (va_up OP st.length 0 i)) (ws' := [((ma 4), .inl (k 0, 20, .inl (fun i => nI (va_up OA st.length at9 i)))), ((ma 5), .inl (k 0, 20, .inl (fun i => nI (va_up OP st.length 0 i)))), ((ma 6), .inl (k 0, 20, .inl (fun i => nI (OK i)))), ((ma 3), .inl (k 0, 800, .inl (fun i => nI (En9 i)))), (h0, .inr (8, moL ma (va_up (va_up iv 2 (nI st.length)) 0 (nI nf)) co)), ((ma 0), .inl (k 0, 4, .inl (fun i => nI (tk i)))), ((ma 1), .inl (k 0, 800, .inl wd)), ((ma 2), .inl (k 0, 4, .inl (fun i => nI (ct i))))]) (show upd _ (nI st.length : Int32).toNatClampNeg 0 = _ from upd_nI OP (j := st.length) (by omega) 0) rfl d_Mo_wrong_94 (fun H locs S => ?_)
      refine lv_aload_n hx hb d_Mo_wrong_95 rfl (lv_at hl 6 rfl) ?_
      refine r_get C K S 4 rfl rfl clOk_Mo 8 (by decide) wf_Mo_32 (v := .ref (ma 6)) rfl d_Mo_wrong_96 ?_
      refine lv_aload_n hx hb d_Mo_wrong_99 rfl (lv_at hl 6 rfl) ?_
      refine r_get C K S 4 rfl rfl clOk_Mo 9 (by decide) wf_Mo_118 (v := .int (nI st.length)) rfl d_Mo_wrong_100 ?_
      refine lv_iload hx hb d_Mo_wrong_103 (lv_at hl 3 rfl) ?_
      refine r_iast C K S 2 rfl (i := nI st.length) (x := nI kn) (show vp_in (nI st.length) _ from vp_in_nI (n := st.length) (by omega) (by decide)) (f' := fun i => nI (va_up OK st.length kn i)) (ws' := [((ma 4), .inl (k 0, 20, .inl (fun i => nI (va_up OA st.length at9 i)))), ((ma 5), .inl (k 0, 20, .inl (fun i => nI (va_up OP st.length 0 i)))), ((ma 6), .inl (k 0, 20, .inl (fun i => nI (va_up OK st.length kn i)))), ((ma 3), .inl (k 0, 800, .inl (fun i => nI (En9 i)))), (h0, .inr (8, moL ma (va_up (va_up iv 2 (nI st.length)) 0 (nI nf)) co)), ((ma 0), .inl (k 0, 4, .inl (fun i => nI (tk i)))), ((ma 1), .inl (k 0, 800, .inl wd)), ((ma 2), .inl (k 0, 4, .inl (fun i => nI (ct i))))]) (show upd _ (nI st.length : Int32).toNatClampNeg (nI kn) = _ from upd_nI OK (j := st.length) (by omega) kn) rfl d_Mo_wrong_105 (fun H locs S => ?_)
      refine lv_aload_n hx hb d_Mo_wrong_106 rfl (lv_at hl 6 rfl) ?_
      refine lv_dup hx hb d_Mo_wrong_107 rfl ?_
      refine r_get C K S 4 rfl rfl clOk_Mo 9 (by decide) wf_Mo_118 (v := .int (nI st.length)) rfl d_Mo_wrong_108 ?_
      refine lv_iconst (v := 1) hx hb d_Mo_wrong_111 (by decide) ?_
      refine z_iadd (x := nI st.length) (y := 1) (v := nI (st.length + 1)) hx hb d_Mo_wrong_112 (nI_add st.length 1) ?_
      refine r_put C K S 4 rfl rfl clOk_Mo 9 (by decide) wf_Mo_118 rfl (ty := .int) (v := .int (nI (st.length + 1))) (by decide +kernel) rfl rfl (Nat.le_of_ble_eq_true rfl) (fs' := moL ma (va_up (va_up iv 0 (nI nf)) 2 (nI (st.length + 1))) co) (ws' := [((ma 4), .inl (k 0, 20, .inl (fun i => nI (va_up OA st.length at9 i)))), ((ma 5), .inl (k 0, 20, .inl (fun i => nI (va_up OP st.length 0 i)))), ((ma 6), .inl (k 0, 20, .inl (fun i => nI (va_up OK st.length kn i)))), ((ma 3), .inl (k 0, 800, .inl (fun i => nI (En9 i)))), (h0, .inr (8, moL ma (va_up (va_up iv 0 (nI nf)) 2 (nI (st.length + 1))) co)), ((ma 0), .inl (k 0, 4, .inl (fun i => nI (tk i)))), ((ma 1), .inl (k 0, 800, .inl wd)), ((ma 2), .inl (k 0, 4, .inl (fun i => nI (ct i))))]) rfl rfl d_Mo_wrong_113 (fun H locs S => ?_)
      refine lv_iload_n hx hb d_Mo_wrong_116 rfl (lv_at hl 4 rfl) ?_
      refine lv_aload_n hx hb d_Mo_wrong_117 rfl (lv_at hl 6 rfl) ?_
      refine lv_iload_n hx hb d_Mo_wrong_118 rfl (lv_at hl 5 rfl) ?_
      refine lv_iload_n hx hb d_Mo_wrong_119 rfl (lv_at hl 4 rfl) ?_
      refine r_backi (wi := [(h0, .inr (8, moL ma (va_up (va_up iv 0 (nI nf)) 2 (nI (st.length + 1))) co)), ((ma 0), .inl (k 0, 4, .inl (fun i => nI (tk i)))), ((ma 1), .inl (k 0, 800, .inl wd))]) (wr := [((ma 4), .inl (k 0, 20, .inl (fun i => nI (va_up OA st.length at9 i)))), ((ma 5), .inl (k 0, 20, .inl (fun i => nI (va_up OP st.length 0 i)))), ((ma 6), .inl (k 0, 20, .inl (fun i => nI (va_up OK st.length kn i)))), ((ma 3), .inl (k 0, 800, .inl (fun i => nI (En9 i)))), ((ma 2), .inl (k 0, 4, .inl (fun i => nI (ct i))))]) S hA [4, 5, 6] [0, 1, 2, 3, 7] rfl rfl (by decide) (by decide) (va_runV (As := [.int (nI f9), .int (nI at9)]) (rest := [.int (nI at9)]) ⟨hx, hb, C.2.2.1, C.2.2.2.1, C.2.2.2.2.1⟩ (g_Mo_headOf l G k h0 _ f9 at9 ma (va_up (va_up iv 0 (nI nf)) 2 (nI (st.length + 1))) co tk wd hf (by omega) (wh_five hnf hct hwh hac) htk) (k_virt (n := 2) C wc_Mo_headOf rfl rfl wz_Mo wm_Mo_125 wn_Mo_headOf ws_Mo_headOf (by decide +kernel) ⟨(Nat.le_of_ble_eq_true rfl), (Nat.le_of_ble_eq_true rfl)⟩) (pr_nowV K S [4, 5, 6] (by decide) rfl 4 rfl rfl) rfl rfl hl.1 rfl (lv_room (Nat.le_of_ble_eq_true rfl)) d_Mo_wrong_120 ⟨(Nat.le_of_ble_eq_true rfl), (Nat.le_of_ble_eq_true rfl)⟩) (fun r34 u32 H locs hw33 S => ?_)
      have S : Sw G A s.heap _ _ [((ma 4), .inl (k 0, 20, .inl (fun i => nI (va_up OA st.length at9 i)))), ((ma 5), .inl (k 0, 20, .inl (fun i => nI (va_up OP st.length 0 i)))), ((ma 6), .inl (k 0, 20, .inl (fun i => nI (va_up OK st.length kn i)))), ((ma 3), .inl (k 0, 800, .inl (fun i => nI (En9 i)))), ((ma 2), .inl (k 0, 4, .inl (fun i => nI (ct i)))), (h0, .inr (8, moL ma (va_up (va_up iv 0 (nI nf)) 2 (nI (st.length + 1))) co)), ((ma 0), .inl (k 0, 4, .inl (fun i => nI (tk i)))), ((ma 1), .inl (k 0, 800, .inl wd))] := S
      obtain ⟨hw330, hp35⟩ := hw33
      obtain rfl : r34 = nI (hdN (wdF wd f9) tk at9) := hw330
      refine z_iadd (x := nI at9) (y := nI (hdN (wdF wd f9) tk at9)) (v := nI (at9 + hdN (wdF wd f9) tk at9)) hx hb d_Mo_wrong_123 (nI_add at9 (hdN (wdF wd f9) tk at9)) ?_
      refine lv_istore_n (lv' := [(2, .int (nI (at9 + hdN (wdF wd f9) tk at9))), (3, .int (nI (nodes + 1))), (6, .int (-1)), (5, .int 0), (4, .int (nI kn)), (1, .int (nI f9)), (0, .ref h0)]) hx hb d_Mo_wrong_124 rfl hl (by decide) rfl (fun ls hl => ?_)
      refine lv_aload_n hx hb d_Mo_wrong_125 rfl (lv_at hl 6 rfl) ?_
      refine lv_iload_n hx hb d_Mo_wrong_126 rfl (lv_at hl 5 rfl) ?_
      refine lv_iload_n hx hb d_Mo_wrong_127 rfl (lv_at hl 0 rfl) ?_
      have hs2 : stO ((at9, 0, kn) :: st) (va_up OA st.length at9) (va_up OP st.length 0) (va_up OK st.length kn) := ⟨va_up_self _ _ _, va_up_self _ _ _, va_up_self _ _ _, stO_congr (fun i hi => ⟨va_up_ne _ _ (by omega), va_up_ne _ _ (by omega), va_up_ne _ _ (by omega)⟩) hst⟩
      have hb2 : stB nodes ((at9, 0, kn) :: st) := ⟨by omega, Nat.zero_le _, hsB⟩
      refine r_backi (wi := [(h0, .inr (8, moL ma (va_up (va_up iv 0 (nI nf)) 2 (nI ((at9, 0, kn) :: st).length)) co)), ((ma 1), .inl (k 0, 800, .inl wd)), ((ma 4), .inl (k 0, 20, .inl (fun i => nI (va_up OA st.length at9 i)))), ((ma 5), .inl (k 0, 20, .inl (fun i => nI (va_up OP st.length 0 i)))), ((ma 6), .inl (k 0, 20, .inl (fun i => nI (va_up OK st.length kn i)))), ((ma 3), .inl (k 0, 800, .inl (fun i => nI (En9 i))))]) (wr := [((ma 2), .inl (k 0, 4, .inl (fun i => nI (ct i)))), ((ma 0), .inl (k 0, 4, .inl (fun i => nI (tk i))))]) S hA [5, 7, 0, 1, 2, 3] [4, 6] rfl rfl (by decide) (by decide) (va_runV (As := [.int (nI f9), .int (nI (at9 + hdN (wdF wd f9) tk at9))]) (rest := []) ⟨hx, hb, C.2.2.1, C.2.2.2.1, C.2.2.2.2.1⟩ (g_Mo_close l G k h0 _ f9 (at9 + hdN (wdF wd f9) tk at9) nodes ((at9, 0, kn) :: st) ma (va_up iv 0 (nI nf)) co wd (va_up OA st.length at9) (va_up OP st.length 0) (va_up OK st.length kn) En9 hf (by omega) hs2 hb2 (by omega) (show st.length + 1 ≤ 18 by omega)) (k_virt (n := 2) C wc_Mo_close rfl rfl wz_Mo wm_Mo_129 wn_Mo_close ws_Mo_close (by decide +kernel) ⟨(Nat.le_of_ble_eq_true rfl), (Nat.le_of_ble_eq_true rfl)⟩) (pr_nowV K S [5, 7, 0, 1, 2, 3] (by decide) rfl 5 rfl rfl) rfl rfl hl.1 rfl (lv_room (Nat.le_of_ble_eq_true rfl)) d_Mo_wrong_128 ⟨(Nat.le_of_ble_eq_true rfl), (Nat.le_of_ble_eq_true rfl)⟩) (fun r37 cu H locs hw36 S => ?_)
      have S : Sw G A s.heap _ _ [((ma 2), .inl (k 0, 4, .inl (fun i => nI (ct i)))), ((ma 0), .inl (k 0, 4, .inl (fun i => nI (tk i)))), (h0, .inr (8, moL ma (va_up (va_up iv 0 (nI nf)) 2 (nI cu.2.2.length)) co)), ((ma 1), .inl (k 0, 800, .inl wd)), ((ma 4), .inl (k 0, 20, .inl (fun i => nI ((va_up OA st.length at9) i)))), ((ma 5), .inl (k 0, 20, .inl (fun i => nI (cu.1 i)))), ((ma 6), .inl (k 0, 20, .inl (fun i => nI ((va_up OK st.length kn) i)))), ((ma 3), .inl (k 0, 800, .inl (fun i => nI (cu.2.1 i))))] := S
      obtain ⟨hw360, ⟨hq1, hq2, hq3, hq4, hq5⟩⟩ := hw36
      obtain rfl : r37 = nI (if cu.2.2 = [] then 1 else 0) := hw360
      rw [← hEn] at hclo
      have hcz := hq1.symm.trans hclo
      have hcz1 : cu.2.2 = st2 := congrArg Prod.fst hcz
      have hcz2 : enF cu.2.1 f9 = _ := congrArg Prod.snd hcz
      obtain ⟨x9, rs, hx9⟩ : ∃ x r, cu.2.2 = x :: r := by
        cases hcc : cu.2.2 with
        | nil => exact absurd (hcz1.symm.trans hcc) hne
        | cons x r => exact ⟨x, r, rfl⟩
      obtain ⟨a9, p9, kn9⟩ := x9
      have hxs : st2 = (a9, p9, kn9) :: rs := hcz1.symm.trans hx9
      rw [hx9] at hq2 hq3 hq4 S
      rw [if_neg (by rw [hx9]; simp)]
      show W _ _ _ _ _ _ _ _ _ _ _ _ _ _ _ (F0 m _ ls [.int 0])
      have hq4 : rs.length + 1 ≤ st.length + 1 := hq4
      have hqa := hq3.1
      have hqb := hq3.2.1
      have S : Sw G A s.heap H locs [((ma 2), .inl (k 0, 4, .inl (fun i => nI (ct i)))), ((ma 0), .inl (k 0, 4, .inl (fun i => nI (tk i)))), (h0, .inr (8, moL ma (va_up (va_up iv 0 (nI nf)) 2 (nI (rs.length + 1))) co)), ((ma 1), .inl (k 0, 800, .inl wd)), ((ma 4), .inl (k 0, 20, .inl (fun i => nI ((va_up OA st.length at9) i)))), ((ma 5), .inl (k 0, 20, .inl (fun i => nI (cu.1 i)))), ((ma 6), .inl (k 0, 20, .inl (fun i => nI ((va_up OK st.length kn) i)))), ((ma 3), .inl (k 0, 800, .inl (fun i => nI (cu.2.1 i))))] := S
      refine lv_istore (lv' := [(5, .int 0), (2, .int (nI (at9 + hdN (wdF wd f9) tk at9))), (3, .int (nI (nodes + 1))), (6, .int (-1)), (4, .int (nI kn)), (1, .int (nI f9)), (0, .ref h0)]) hx hb d_Mo_wrong_131 hl (by decide) rfl (fun ls hl => ?_)
      refine lv_iload hx hb d_Mo_wrong_133 (lv_at hl 0 rfl) ?_
      refine lv_if_ne (tgt := 145) hx hb d_Mo_wrong_135 (by decide) (fun hq => absurd (by decide) hq) (fun _ => ?_)
      refine lv_aload_n hx hb d_Mo_wrong_138 rfl (lv_at hl 6 rfl) ?_
      refine lv_iload_n hx hb d_Mo_wrong_139 rfl (lv_at hl 5 rfl) ?_
      refine r_backi (wi := [(h0, .inr (8, moL ma (va_up (va_up iv 0 (nI nf)) 2 (nI (rs.length + 1))) co)), ((ma 1), .inl (k 0, 800, .inl wd)), ((ma 4), .inl (k 0, 20, .inl (fun i => nI ((va_up OA st.length at9) i)))), ((ma 5), .inl (k 0, 20, .inl (fun i => nI (cu.1 i)))), ((ma 6), .inl (k 0, 20, .inl (fun i => nI ((va_up OK st.length kn) i))))]) (wr := [((ma 2), .inl (k 0, 4, .inl (fun i => nI (ct i)))), ((ma 0), .inl (k 0, 4, .inl (fun i => nI (tk i)))), ((ma 3), .inl (k 0, 800, .inl (fun i => nI (cu.2.1 i))))]) S hA [2, 3, 4, 5, 6] [0, 1, 7] rfl rfl (by decide) (by decide) (va_runV (As := [.int (nI f9)]) (rest := []) ⟨hx, hb, C.2.2.1, C.2.2.2.1, C.2.2.2.2.1⟩ (g_Mo_knownBehind l G k h0 _ f9 a9 p9 kn9 rs ma (va_up iv 0 (nI nf)) co wd (va_up OA st.length at9) cu.1 (va_up OK st.length kn) hf hq2 (by omega) (by omega) (by omega)) (k_virt (n := 1) C wc_Mo_knownBehind rfl rfl wz_Mo wm_Mo_133 wn_Mo_knownBehind ws_Mo_knownBehind (by decide +kernel) ⟨(Nat.le_of_ble_eq_true rfl), (Nat.le_of_ble_eq_true rfl)⟩) (pr_nowV K S [2, 3, 4, 5, 6] (by decide) rfl 2 rfl rfl) rfl rfl hl.1 rfl (lv_room (Nat.le_of_ble_eq_true rfl)) d_Mo_wrong_140 ⟨(Nat.le_of_ble_eq_true rfl), (Nat.le_of_ble_eq_true rfl)⟩) (fun r40 u38 H locs hw39 S => ?_)
      have S : Sw G A s.heap _ _ [((ma 2), .inl (k 0, 4, .inl (fun i => nI (ct i)))), ((ma 0), .inl (k 0, 4, .inl (fun i => nI (tk i)))), ((ma 3), .inl (k 0, 800, .inl (fun i => nI (cu.2.1 i)))), (h0, .inr (8, moL ma (va_up (va_up iv 0 (nI nf)) 2 (nI (rs.length + 1))) co)), ((ma 1), .inl (k 0, 800, .inl wd)), ((ma 4), .inl (k 0, 20, .inl (fun i => nI ((va_up OA st.length at9) i)))), ((ma 5), .inl (k 0, 20, .inl (fun i => nI (cu.1 i)))), ((ma 6), .inl (k 0, 20, .inl (fun i => nI ((va_up OK st.length kn) i))))] := S
      obtain ⟨hw390, hp41⟩ := hw39
      obtain rfl : r40 = nI (kbN (wdF wd f9) ((a9, p9, kn9) :: rs)) := hw390
      refine lv_istore (lv' := [(4, .int (nI (kbN (wdF wd f9) ((a9, p9, kn9) :: rs)))), (5, .int 0), (2, .int (nI (at9 + hdN (wdF wd f9) tk at9))), (3, .int (nI (nodes + 1))), (6, .int (-1)), (1, .int (nI f9)), (0, .ref h0)]) hx hb d_Mo_wrong_143 hl (by decide) rfl (fun ls hl => ?_)
      refine lv_goto (tgt := 20) hx hb d_Mo_wrong_145 (by decide) ?_
      exact hP hrr (by omega) (va_up OA st.length at9) cu.1 (va_up OK st.length kn) cu.2.1 hcz2 (by rw [hxs]; exact hq2) (by rw [hxs]; exact hq3) (fun i hi => (hq5 i hi).trans (hou i hi)) _ _ (by rw [hxs]; exact S.sub [3, 1, 4, 0, 5, 6, 7, 2] (by decide) rfl) ls (by rw [hxs]; exact lv_sub hl [1, 0, 3, 2, 5, 6] rfl)
  exact hWL _ key ⟨rfl, rfl⟩ (by omega) OA OP OK En rfl trivial trivial (fun _ _ => rfl) _ _ (S.sub [0, 1, 2, 3, 4, 5, 6, 7] (by decide) rfl) ls (lv_sub hl [0, 1, 2, 3, 5, 4] rfl)
end
section
/-- the places are the same whatever stood in the ends before -/
def prE : PR → PR → Prop
  | .inl b, .inl c => b = c
  | .inr (a, n, _), .inr (c, q, _) => a = c ∧ n = q
  | _, _ => False
theorem prs_any {W : Nat → Int32} {tk : Nat → Nat} {nf cnt : Nat} : ∀ (fu kn at9 nodes : Nat) (E E2 : Nat → Nat), prE (prs W tk nf cnt fu kn at9 nodes E) (prs W tk nf cnt fu kn at9 nodes E2)
  | 0, _, _, _, _, _ => rfl
  | fu + 1, kn, at9, nodes, E, E2 => by
    rw [prs, prs]
    by_cases q0 : at9 = cnt ∨ nodes = 40
    · rw [if_pos q0, if_pos q0]; rfl
    rw [if_neg q0, if_neg q0]
    cases hw : wh W tk nf cnt at9 kn with
    | some b => exact rfl
    | none =>
      show prE (if W at9 = 0 ∨ W at9 = 1 ∨ W at9 = 5 then _ else _) (if W at9 = 0 ∨ W at9 = 1 ∨ W at9 = 5 then _ else _)
      by_cases w0 : W at9 = 0 ∨ W at9 = 1 ∨ W at9 = 5
      · rw [if_pos w0, if_pos w0]; exact ⟨rfl, rfl⟩
      rw [if_neg w0, if_neg w0]
      have i1 := prs_any (W := W) (tk := tk) (nf := nf) (cnt := cnt) fu kn (at9 + hdN W tk at9) (nodes + 1) E E2
      cases h1 : prs W tk nf cnt fu kn (at9 + hdN W tk at9) (nodes + 1) E with
      | inl b =>
        rw [h1] at i1
        cases h2 : prs W tk nf cnt fu kn (at9 + hdN W tk at9) (nodes + 1) E2 with
        | inl c => rw [h2] at i1; exact i1
        | inr y => rw [h2] at i1; exact i1.elim
      | inr x =>
        rw [h1] at i1
        cases h2 : prs W tk nf cnt fu kn (at9 + hdN W tk at9) (nodes + 1) E2 with
        | inl c => rw [h2] at i1; exact i1.elim
        | inr y =>
          rw [h2] at i1
          obtain ⟨a, n, X⟩ := x
          obtain ⟨c, q, Y⟩ := y
          obtain ⟨e1, e2⟩ : a = c ∧ n = q := i1
          subst e1; subst e2
          show prE (if W at9 = 2 ∨ W at9 = 4 then _ else _) (if W at9 = 2 ∨ W at9 = 4 then _ else _)
          by_cases w2 : W at9 = 2 ∨ W at9 = 4
          · rw [if_pos w2, if_pos w2]; exact ⟨rfl, rfl⟩
          rw [if_neg w2, if_neg w2]
          have i2 := prs_any (W := W) (tk := tk) (nf := nf) (cnt := cnt) fu (kn + 1) a n X Y
          cases h3 : prs W tk nf cnt fu (kn + 1) a n X with
          | inl b =>
            rw [h3] at i2
            cases h4 : prs W tk nf cnt fu (kn + 1) a n Y with
            | inl c => rw [h4] at i2; exact i2
            | inr y => rw [h4] at i2; exact i2.elim
          | inr x =>
            rw [h3] at i2
            cases h4 : prs W tk nf cnt fu (kn + 1) a n Y with
            | inl c => rw [h4] at i2; exact i2.elim
            | inr y =>
              rw [h4] at i2
              exact i2
theorem wrR_any {cnt : Nat} : ∀ {a b : PR}, prE a b → wrR cnt a = wrR cnt b
  | .inl _, .inl _, h => congrArg some h
  | .inr (a, n, X), .inr (c, q, Y), h => by
    have h1 : a = c := h.1
    subst h1; rfl
  | .inl _, .inr _, h => h.elim
  | .inr _, .inl _, h => h.elim
/-- the wrong place of a body; the first function that has one -/
def wrN (wd : Nat → Int32) (tk ct : Nat → Nat) (nf f : Nat) : Option Nat := wrR (ct f) (prs (wdF wd f) tk nf (ct f) 16 (tk f) 0 0 (fun _ => 0))
def fbN (wd : Nat → Int32) (tk ct : Nat → Nat) (nf : Nat) : Nat → Option (Nat × Nat)
  | 0 => none
  | k + 1 => match fbN wd tk ct nf k with
    | some x => some x
    | none => match wrN wd tk ct nf k with
      | none => none
      | some b => some (k, b)
/-- the body of f is one expression, and its ends are known -/
def bodyO (wd : Nat → Int32) (tk ct : Nat → Nat) (nf : Nat) (en : Nat → Nat) (f : Nat) : Prop := wf (wdF wd f) tk nf (enF en f) 16 (tk f) 0 (ct f) ∧ nd (wdF wd f) (enF en f) 16 0 ≤ 40
theorem body_of {wd : Nat → Int32} {tk ct : Nat → Nat} {nf f : Nat} {en en2 : Nat → Nat} (hnf : nf ≤ 4) (htk : tk f ≤ 3) (h : wrR (ct f) (prs (wdF wd f) tk nf (ct f) 16 (tk f) 0 0 (enF en f)) = none) (h2 : ∀ a2 n2 E2, prs (wdF wd f) tk nf (ct f) 16 (tk f) 0 0 (enF en f) = .inr (a2, n2, E2) → enF en2 f = E2) : bodyO wd tk ct nf en2 f := by
  cases hp : prs (wdF wd f) tk nf (ct f) 16 (tk f) 0 0 (enF en f) with
  | inl b => rw [hp] at h; exact absurd h (by simp [wrR])
  | inr x =>
    obtain ⟨a2, n2, E2⟩ := x
    have he := h2 a2 n2 E2 hp
    rw [hp] at h
    have hw := prs_wf hnf 16 (tk f) 0 0 (enF en f) a2 n2 E2 hp (Nat.zero_le _) (Nat.zero_le _) (by omega)
    have ha : a2 = ct f := by
      apply Classical.byContradiction
      intro q
      have h : (if a2 = ct f then none else some a2) = none := h
      rw [if_neg q] at h
      exact absurd h (by simp)
    subst ha
    unfold bodyO
    rw [he]
    exact ⟨hw.1, by have := hw.2.2.1; have := hw.2.2.2.2.2; omega⟩
theorem body_keep {wd : Nat → Int32} {tk ct : Nat → Nat} {nf f : Nat} {en en2 : Nat → Nat} (hc : ct f ≤ 200) (h : bodyO wd tk ct nf en f) (h2 : ∀ p, p < 200 → en2 (200 * f + p) = en (200 * f + p)) : bodyO wd tk ct nf en2 f := by
  have := wf_congr (E := enF en f) (E' := enF en2 f) 16 (tk f) 0 (ct f) (fun i _ hi => h2 i (by omega)) h.1
  unfold bodyO
  exact ⟨this.1, by rw [this.2]; exact h.2⟩
theorem fb_none {wd : Nat → Int32} {tk ct : Nat → Nat} {nf k : Nat} (h : fbN wd tk ct nf k = none) (h2 : wrN wd tk ct nf k = none) : fbN wd tk ct nf (k + 1) = none := by
  rw [fbN, h]
  show (match wrN wd tk ct nf k with | none => none | some b => some (k, b)) = none
  rw [h2]
theorem fb_some {wd : Nat → Int32} {tk ct : Nat → Nat} {nf k b : Nat} (h : fbN wd tk ct nf k = none) (h2 : wrN wd tk ct nf k = some b) : ∀ d, fbN wd tk ct nf (k + 1 + d) = some (k, b)
  | 0 => by
    show fbN wd tk ct nf (k + 1) = _
    rw [fbN, h]
    show (match wrN wd tk ct nf k with | none => none | some b => some (k, b)) = _
    rw [h2]
  | d + 1 => by
    rw [← Nat.add_assoc, fbN, fb_some h h2 d]
theorem wrN_le {wd : Nat → Int32} {tk ct : Nat → Nat} {nf f b : Nat} (h : wrN wd tk ct nf f = some b) : True := trivial
theorem prs_le {W : Nat → Int32} {tk : Nat → Nat} {nf cnt : Nat} : ∀ (fu kn at9 nodes : Nat) (E : Nat → Nat), at9 ≤ cnt → match prs W tk nf cnt fu kn at9 nodes E with | .inl b => b ≤ cnt | .inr (a2, _, _) => a2 ≤ cnt
  | 0, _, _, _, _, h => h
  | fu + 1, kn, at9, nodes, E, h => by
    rw [prs]
    by_cases q0 : at9 = cnt ∨ nodes = 40
    · rw [if_pos q0]; exact h
    rw [if_neg q0]
    cases hw : wh W tk nf cnt at9 kn with
    | some b => exact wh_le hw (by omega)
    | none =>
      have hh := wh_hd hw (by omega)
      show (match (if W at9 = 0 ∨ W at9 = 1 ∨ W at9 = 5 then _ else _ : PR) with | .inl b => b ≤ cnt | .inr (a2, _, _) => a2 ≤ cnt)
      by_cases w0 : W at9 = 0 ∨ W at9 = 1 ∨ W at9 = 5
      · rw [if_pos w0]; exact hh
      rw [if_neg w0]
      have i1 := prs_le (W := W) (tk := tk) (nf := nf) (cnt := cnt) fu kn (at9 + hdN W tk at9) (nodes + 1) E hh
      cases h1 : prs W tk nf cnt fu kn (at9 + hdN W tk at9) (nodes + 1) E with
      | inl b => rw [h1] at i1; exact i1
      | inr x =>
        obtain ⟨a, n, X⟩ := x
        rw [h1] at i1
        show (match (if W at9 = 2 ∨ W at9 = 4 then _ else _ : PR) with | .inl b => b ≤ cnt | .inr (a2, _, _) => a2 ≤ cnt)
        by_cases w2 : W at9 = 2 ∨ W at9 = 4
        · rw [if_pos w2]; exact i1
        rw [if_neg w2]
        have i2 := prs_le (W := W) (tk := tk) (nf := nf) (cnt := cnt) fu (kn + 1) a n X i1
        cases h3 : prs W tk nf cnt fu (kn + 1) a n X with
        | inl b => rw [h3] at i2; exact i2
        | inr x => rw [h3] at i2; exact i2
theorem wrN_b {wd : Nat → Int32} {tk ct : Nat → Nat} {nf f b : Nat} (h : wrN wd tk ct nf f = some b) (hc : ct f ≤ 200) : b ≤ 200 := by
  have h1 := prs_le (W := wdF wd f) (tk := tk) (nf := nf) (cnt := ct f) 16 (tk f) 0 0 (fun _ => 0) (Nat.zero_le _)
  unfold wrN at h
  cases hp : prs (wdF wd f) tk nf (ct f) 16 (tk f) 0 0 (fun _ => 0) with
  | inl c => rw [hp] at h h1; injection h with h; subst h; exact Nat.le_trans h1 hc
  | inr x =>
    obtain ⟨a2, n2, E2⟩ := x
    rw [hp] at h h1
    have h : (if a2 = ct f then none else some a2) = some b := h
    have h1 : a2 ≤ ct f := h1
    split at h
    · exact absurd h (by simp)
    · injection h with h; omega
theorem d_Mo_isRight_0 : decode c_Mo_isRight 0 = .ok (.iconst 1, 1) := by decide +kernel
theorem d_Mo_isRight_1 : decode c_Mo_isRight 1 = .ok (.istore_n 1, 1) := by decide +kernel
theorem d_Mo_isRight_2 : decode c_Mo_isRight 2 = .ok (.iconst 0, 1) := by decide +kernel
theorem d_Mo_isRight_3 : decode c_Mo_isRight 3 = .ok (.istore_n 2, 1) := by decide +kernel
theorem d_Mo_isRight_4 : decode c_Mo_isRight 4 = .ok (.iload_n 2, 1) := by decide +kernel
theorem d_Mo_isRight_5 : decode c_Mo_isRight 5 = .ok (.aload_n 0, 1) := by decide +kernel
theorem d_Mo_isRight_6 : decode c_Mo_isRight 6 = .ok (.getfield 111, 3) := by decide +kernel
theorem d_Mo_isRight_9 : decode c_Mo_isRight 9 = .ok (.if_icmp .ge 27, 3) := by decide +kernel
theorem d_Mo_isRight_12 : decode c_Mo_isRight 12 = .ok (.iload_n 1, 1) := by decide +kernel
theorem d_Mo_isRight_13 : decode c_Mo_isRight 13 = .ok (.ifCond .eq 23, 3) := by decide +kernel
theorem d_Mo_isRight_16 : decode c_Mo_isRight 16 = .ok (.aload_n 0, 1) := by decide +kernel
theorem d_Mo_isRight_17 : decode c_Mo_isRight 17 = .ok (.iload_n 2, 1) := by decide +kernel
theorem d_Mo_isRight_18 : decode c_Mo_isRight 18 = .ok (.invokevirtual 140, 3) := by decide +kernel
theorem d_Mo_isRight_21 : decode c_Mo_isRight 21 = .ok (.ifCond .ge 7, 3) := by decide +kernel
theorem d_Mo_isRight_24 : decode c_Mo_isRight 24 = .ok (.iconst 1, 1) := by decide +kernel
theorem d_Mo_isRight_25 : decode c_Mo_isRight 25 = .ok (.goto 4, 3) := by decide +kernel
theorem d_Mo_isRight_28 : decode c_Mo_isRight 28 = .ok (.iconst 0, 1) := by decide +kernel
theorem d_Mo_isRight_29 : decode c_Mo_isRight 29 = .ok (.istore_n 1, 1) := by decide +kernel
theorem d_Mo_isRight_30 : decode c_Mo_isRight 30 = .ok (.iinc 2 1, 3) := by decide +kernel
theorem d_Mo_isRight_33 : decode c_Mo_isRight 33 = .ok (.goto (-29), 3) := by decide +kernel
theorem d_Mo_isRight_36 : decode c_Mo_isRight 36 = .ok (.iload_n 1, 1) := by decide +kernel
theorem d_Mo_isRight_37 : decode c_Mo_isRight 37 = .ok (.ireturn, 1) := by decide +kernel
set_option maxRecDepth 100000 in
set_option maxHeartbeats 16000000 in
/-- isRight() -/
theorem g_Mo_isRight (l : Launch) (G : va_G) (k : Nat → ClassId) (h0 : Nat) (s0 : Nat) (nf : Nat) (ma : Nat → Nat) (iv : Nat → Int32) (co : Int64) (tk : Nat → Nat) (ct : Nat → Nat) (wd : Nat → Int32) (OA : Nat → Nat) (OP : Nat → Nat) (OK : Nat → Nat) (En : Nat → Nat) (hnf : nf ≤ 4) (hct : ∀ f, f < 4 → ct f ≤ 200) (htk : ∀ g, g < 4 → tk g ≤ 3) : CI l y_Mo_isRight c_Mo_isRight 3 .boolean { frames := 4, cells := 0, slots := 0, locals := 95 } [.ref h0] G k s0 [(h0, .inr (8, moL ma (va_up iv 0 (nI nf)) co)), ((ma 0), .inl (k 0, 4, .inl (fun i => nI (tk i)))), ((ma 1), .inl (k 0, 800, .inl wd)), ((ma 2), .inl (k 0, 4, .inl (fun i => nI (ct i)))), ((ma 4), .inl (k 0, 20, .inl (fun i => nI (OA i)))), ((ma 5), .inl (k 0, 20, .inl (fun i => nI (OP i)))), ((ma 6), .inl (k 0, 20, .inl (fun i => nI (OK i)))), ((ma 3), .inl (k 0, 800, .inl (fun i => nI (En i))))] (fun (r : Int32) (u : (Nat → Nat → Nat) × Int32 × Nat) => r = nI u.2.2 ∧ ((u.2.2 = 1 ∧ fbN wd tk ct nf nf = none ∧ ∀ f, f < nf → bodyO wd tk ct nf (u.1 3) f) ∨ (u.2.2 = 0 ∧ fbN wd tk ct nf nf ≠ none))) (fun u => [(h0, .inr (8, moL ma (va_up (va_up iv 0 (nI nf)) 2 u.2.1) co)), ((ma 0), .inl (k 0, 4, .inl (fun i => nI (tk i)))), ((ma 1), .inl (k 0, 800, .inl wd)), ((ma 2), .inl (k 0, 4, .inl (fun i => nI (ct i)))), ((ma 4), .inl (k 0, 20, .inl (fun i => nI (u.1 0 i)))), ((ma 5), .inl (k 0, 20, .inl (fun i => nI (u.1 1 i)))), ((ma 6), .inl (k 0, 20, .inl (fun i => nI (u.1 2 i)))), ((ma 3), .inl (k 0, 800, .inl (fun i => nI (u.1 3 i))))]) 0 0 := by
  refine met_start (by decide) (Nat.le_of_ble_eq_true rfl) ?_
  intro p e s m below meth c C K hA hsz S ls hl
  generalize va_A [(h0, .inr (8, moL ma (va_up iv 0 (nI nf)) co)), ((ma 0), .inl (k 0, 4, .inl (fun i => nI (tk i)))), ((ma 1), .inl (k 0, 800, .inl wd)), ((ma 2), .inl (k 0, 4, .inl (fun i => nI (ct i)))), ((ma 4), .inl (k 0, 20, .inl (fun i => nI (OA i)))), ((ma 5), .inl (k 0, 20, .inl (fun i => nI (OP i)))), ((ma 6), .inl (k 0, 20, .inl (fun i => nI (OK i)))), ((ma 3), .inl (k 0, 800, .inl (fun i => nI (En i))))] s0 = A at hA S ⊢
  have hx := C.1
  have hb := C.2.1
  have hl : lv_has ls 3 [(0, .ref h0)] := hl
  refine lv_iconst (v := 1) hx hb d_Mo_isRight_0 (by decide) ?_
  refine lv_istore_n (lv' := [(1, .int 1), (0, .ref h0)]) hx hb d_Mo_isRight_1 rfl hl (by decide) rfl (fun ls hl => ?_)
  refine lv_iconst (v := 0) hx hb d_Mo_isRight_2 (by decide) ?_
  refine lv_istore_n (lv' := [(2, .int 0), (1, .int 1), (0, .ref h0)]) hx hb d_Mo_isRight_3 rfl hl (by decide) rfl (fun ls hl => ?_)
  have lp : ∀ d9, ∀ (fi : Nat), ∀ (rt : Nat), ∀ (OA9 : Nat → Nat), ∀ (OP9 : Nat → Nat), ∀ (OK9 : Nat → Nat), ∀ (En9 : Nat → Nat), ∀ (op9 : Int32), (nf - fi) < d9 → (fi ≤ nf) → ((rt = 1 ∧ fbN wd tk ct nf fi = none ∧ ∀ f, f < fi → bodyO wd tk ct nf En9 f) ∨ (rt = 0 ∧ fbN wd tk ct nf nf ≠ none)) → ∀ (H : Heap) (locs : List Loc), Sw G A s.heap H locs [(h0, .inr (8, moL ma (va_up (va_up iv 0 (nI nf)) 2 op9) co)), ((ma 0), .inl (k 0, 4, .inl (fun i => nI (tk i)))), ((ma 1), .inl (k 0, 800, .inl wd)), ((ma 2), .inl (k 0, 4, .inl (fun i => nI (ct i)))), ((ma 4), .inl (k 0, 20, .inl (fun i => nI (OA9 i)))), ((ma 5), .inl (k 0, 20, .inl (fun i => nI (OP9 i)))), ((ma 6), .inl (k 0, 20, .inl (fun i => nI (OK9 i)))), ((ma 3), .inl (k 0, 800, .inl (fun i => nI (En9 i))))] → ∀ ls : Array Slot, lv_has ls 3 [(2, .int (nI fi)), (1, .int (nI rt)), (0, .ref h0)] → W p l e { frames := 4, cells := 0, slots := 0, locals := 95 } s m [Value.ref h0].toArray below meth c H locs 0 0 (MQ below (va_Qi (fun (r : Int32) (u : (Nat → Nat → Nat) × Int32 × Nat) => r = nI u.2.2 ∧ ((u.2.2 = 1 ∧ fbN wd tk ct nf nf = none ∧ ∀ f, f < nf → bodyO wd tk ct nf (u.1 3) f) ∨ (u.2.2 = 0 ∧ fbN wd tk ct nf nf ≠ none))) (Po G k A (fun u => [(h0, .inr (8, moL ma (va_up (va_up iv 0 (nI nf)) 2 u.2.1) co)), ((ma 0), .inl (k 0, 4, .inl (fun i => nI (tk i)))), ((ma 1), .inl (k 0, 800, .inl wd)), ((ma 2), .inl (k 0, 4, .inl (fun i => nI (ct i)))), ((ma 4), .inl (k 0, 20, .inl (fun i => nI (u.1 0 i)))), ((ma 5), .inl (k 0, 20, .inl (fun i => nI (u.1 1 i)))), ((ma 6), .inl (k 0, 20, .inl (fun i => nI (u.1 2 i)))), ((ma 3), .inl (k 0, 800, .inl (fun i => nI (u.1 3 i))))])) A) [Value.ref h0].toArray s 0 0 A) (F0 m 4 ls []) := by
    intro d9
    induction d9 with
    | zero => intro fi rt OA9 OP9 OK9 En9 op9 hm; exact absurd hm (Nat.not_lt_zero _)
    | succ d9 ih_lp =>
      intro fi rt OA9 OP9 OK9 En9 op9 hm hfi hrt H locs S ls hl
      have hr1 : rt ≤ 1 := by rcases hrt with q | q; rw [q.1]; exact Nat.le_refl _; rw [q.1]; exact Nat.zero_le _
      refine lv_iload_n hx hb d_Mo_isRight_4 rfl (lv_at hl 0 rfl) ?_
      refine lv_aload_n hx hb d_Mo_isRight_5 rfl (lv_at hl 2 rfl) ?_
      refine r_get C K S 0 rfl rfl clOk_Mo 0 (by decide) wf_Mo_111 (v := .int (nI nf)) rfl d_Mo_isRight_6 ?_
      refine z_icmp_ge (a := fi) (b := nf) (tgt := 36) hx hb d_Mo_isRight_9 (by decide) (by omega) (by omega) (fun hc1 => ?_) (fun hc1 => ?_)
      · refine lv_iload_n hx hb d_Mo_isRight_36 rfl (lv_at hl 1 rfl) ?_
        exact r_iret C K (bo_nz (b := rt) (by omega)) (uz [OA9, OP9, OK9, En9], op9, rt) ⟨rfl, (show fi = nf by omega) ▸ hrt⟩ (S.sub [0, 1, 2, 3, 4, 5, 6, 7] (by decide) rfl) d_Mo_isRight_37 (Nat.le_of_ble_eq_true rfl) (Nat.le_of_ble_eq_true rfl)
      · refine lv_iload_n hx hb d_Mo_isRight_12 rfl (lv_at hl 1 rfl) ?_
        refine z_if_eq (a := rt) (tgt := 36) hx hb d_Mo_isRight_13 (by decide) (by omega) (fun hc2 => ?_) (fun hc2 => ?_)
        · refine lv_iload_n hx hb d_Mo_isRight_36 rfl (lv_at hl 1 rfl) ?_
          exact r_iret C K (bo_nz (b := rt) (by omega)) (uz [OA9, OP9, OK9, En9], op9, rt) ⟨rfl, Or.inr ⟨by omega, (hrt.resolve_left (fun q => by have := q.1; omega)).2⟩⟩ (S.sub [0, 1, 2, 3, 4, 5, 6, 7] (by decide) rfl) d_Mo_isRight_37 (Nat.le_of_ble_eq_true rfl) (Nat.le_of_ble_eq_true rfl)
        · obtain ⟨hrt0, hrt1, hrt2⟩ := hrt.resolve_right (fun q => by have := q.1; omega)
          refine lv_aload_n hx hb d_Mo_isRight_16 rfl (lv_at hl 2 rfl) ?_
          refine lv_iload_n hx hb d_Mo_isRight_17 rfl (lv_at hl 0 rfl) ?_
          refine r_backi (wi := [(h0, .inr (8, moL ma (va_up (va_up iv 2 op9) 0 (nI nf)) co)), ((ma 0), .inl (k 0, 4, .inl (fun i => nI (tk i)))), ((ma 1), .inl (k 0, 800, .inl wd)), ((ma 2), .inl (k 0, 4, .inl (fun i => nI (ct i)))), ((ma 4), .inl (k 0, 20, .inl (fun i => nI (OA9 i)))), ((ma 5), .inl (k 0, 20, .inl (fun i => nI (OP9 i)))), ((ma 6), .inl (k 0, 20, .inl (fun i => nI (OK9 i)))), ((ma 3), .inl (k 0, 800, .inl (fun i => nI (En9 i))))]) (wr := []) S hA [0, 1, 2, 3, 4, 5, 6, 7] [] rfl rfl (by decide) (by decide) (va_runV (As := [.int (nI fi)]) (rest := []) ⟨hx, hb, C.2.2.1, C.2.2.2.1, C.2.2.2.2.1⟩ (g_Mo_wrong l G k h0 _ fi nf ma (va_up iv 2 op9) co tk ct wd OA9 OP9 OK9 En9 (by omega) (hct fi (by omega)) hnf htk) (k_virt (n := 1) C wc_Mo_wrong rfl rfl wz_Mo wm_Mo_140 wn_Mo_wrong ws_Mo_wrong (by decide +kernel) ⟨(Nat.le_of_ble_eq_true rfl), (Nat.le_of_ble_eq_true rfl)⟩) (pr_nowV K S [0, 1, 2, 3, 4, 5, 6, 7] (by decide) rfl 0 rfl rfl) rfl rfl hl.1 rfl (lv_room (Nat.le_of_ble_eq_true rfl)) d_Mo_isRight_18 ⟨(Nat.le_of_ble_eq_true rfl), (Nat.le_of_ble_eq_true rfl)⟩) (fun r4 wu H locs hw3 S => ?_)
          have S : Sw G A s.heap _ _ [(h0, .inr (8, moL ma (va_up (va_up iv 0 (nI nf)) 2 (nI wu.2)) co)), ((ma 0), .inl (k 0, 4, .inl (fun i => nI (tk i)))), ((ma 1), .inl (k 0, 800, .inl wd)), ((ma 2), .inl (k 0, 4, .inl (fun i => nI (ct i)))), ((ma 4), .inl (k 0, 20, .inl (fun i => nI (wu.1 0 i)))), ((ma 5), .inl (k 0, 20, .inl (fun i => nI (wu.1 1 i)))), ((ma 6), .inl (k 0, 20, .inl (fun i => nI (wu.1 2 i)))), ((ma 3), .inl (k 0, 800, .inl (fun i => nI (wu.1 3 i))))] := S
          obtain ⟨hw30, ⟨hw1, hw2⟩⟩ := hw3
          obtain rfl : r4 = bI (wrR (ct fi) (prs (wdF wd fi) tk nf (ct fi) 16 (tk fi) 0 0 (enF En9 fi))) := hw30
          have hwr := (wrR_any (cnt := ct fi) (prs_any (W := wdF wd fi) (tk := tk) (nf := nf) (cnt := ct fi) 16 (tk fi) 0 0 (enF En9 fi) (fun _ => 0)))
          rw [hwr]
          have hwn : wrR (ct fi) (prs (wdF wd fi) tk nf (ct fi) 16 (tk fi) 0 0 (fun _ => 0)) = wrN wd tk ct nf fi := rfl
          rw [hwn] at hwr ⊢
          cases hwc : wrN wd tk ct nf fi with
          | none =>
            rw [hwc] at hwr
            show W _ _ _ _ _ _ _ _ _ _ _ _ _ _ _ (F0 m _ ls [.int (-1)])
            have hbd : bodyO wd tk ct nf (wu.1 3) fi := by
              exact body_of hnf (htk fi (by omega)) hwr hw1
            refine lv_if_ge (tgt := 28) hx hb d_Mo_isRight_21 (by decide) (fun hq => absurd hq (by decide)) (fun _ => ?_)
            refine lv_iconst (v := 1) hx hb d_Mo_isRight_24 (by decide) ?_
            refine lv_goto (tgt := 29) hx hb d_Mo_isRight_25 (by decide) ?_
            refine lv_istore_n (lv' := [(1, .int 1), (2, .int (nI fi)), (0, .ref h0)]) hx hb d_Mo_isRight_29 rfl hl (by decide) rfl (fun ls hl => ?_)
            refine lv_iinc (v := nI (fi + 1)) (lv' := [(2, .int (nI (fi + 1))), (1, .int 1), (0, .ref h0)]) hx hb d_Mo_isRight_30 hl (k := 1) rfl (show nI fi + Int32.ofInt 1 = nI (fi + 1) from (nI_add fi 1).trans (congrArg nI (by omega))) (by decide) rfl (fun ls hl => ?_)
            refine lv_goto (tgt := 4) hx hb d_Mo_isRight_33 (by decide) ?_
            exact ih_lp (fi + 1) 1 (wu.1 0) (wu.1 1) (wu.1 2) (wu.1 3) (nI wu.2) (by omega) (by omega) (Or.inl ⟨rfl, fb_none hrt1 hwc, fun f hf => (Nat.lt_or_eq_of_le (Nat.le_of_lt_succ hf)).elim (fun q => body_keep (hct f (by omega)) (hrt2 f q) (fun p hp => hw2 _ (by omega))) (fun q => q ▸ hbd)⟩) _ _ (S.sub [0, 1, 2, 3, 4, 5, 6, 7] (by decide) rfl) ls (lv_sub hl [0, 1, 2] rfl)
          | some b9 =>
            rw [hwc] at hwr
            show W _ _ _ _ _ _ _ _ _ _ _ _ _ _ _ (F0 m _ ls [.int (nI b9)])
            have hbd : True := by
              trivial
            have hb9 := wrN_b hwc (hct fi (by omega))
            refine z_if_ge (a := b9) (tgt := 28) hx hb d_Mo_isRight_21 (by decide) (by omega) ?_
            refine lv_iconst (v := 0) hx hb d_Mo_isRight_28 (by decide) ?_
            refine lv_istore_n (lv' := [(1, .int 0), (2, .int (nI fi)), (0, .ref h0)]) hx hb d_Mo_isRight_29 rfl hl (by decide) rfl (fun ls hl => ?_)
            refine lv_iinc (v := nI (fi + 1)) (lv' := [(2, .int (nI (fi + 1))), (1, .int 0), (0, .ref h0)]) hx hb d_Mo_isRight_30 hl (k := 1) rfl (show nI fi + Int32.ofInt 1 = nI (fi + 1) from (nI_add fi 1).trans (congrArg nI (by omega))) (by decide) rfl (fun ls hl => ?_)
            refine lv_goto (tgt := 4) hx hb d_Mo_isRight_33 (by decide) ?_
            exact ih_lp (fi + 1) 0 (wu.1 0) (wu.1 1) (wu.1 2) (wu.1 3) (nI wu.2) (by omega) (by omega) (Or.inr ⟨rfl, by obtain ⟨d, hd⟩ : ∃ d, nf = fi + 1 + d := ⟨nf - (fi + 1), by omega⟩; have := fb_some hrt1 hwc d; rw [← hd] at this; rw [this]; simp⟩) _ _ (S.sub [0, 1, 2, 3, 4, 5, 6, 7] (by decide) rfl) ls (lv_sub hl [0, 1, 2] rfl)
  exact lp _ 0 1 OA OP OK En (iv 2) (Nat.lt_succ_self _) (by omega) (Or.inl ⟨rfl, rfl, fun _ h => absurd h (Nat.not_lt_zero _)⟩) _ _ (S.sub [0, 1, 2, 3, 4, 5, 6, 7] (by decide) rfl) ls (lv_sub hl [0, 1, 2] rfl)
def plN : Option (Nat × Nat) → Int32
  | none => -2
  | some (_, b) => nI b
def lkN : Option (Nat × Nat) → Int32
  | none => 0
  | some (f, _) => -1 - nI f
theorem d_Mo_look_0 : decode c_Mo_look 0 = .ok (.aload_n 0, 1) := by decide +kernel
theorem d_Mo_look_1 : decode c_Mo_look 1 = .ok (.bipush (-2), 2) := by decide +kernel
theorem d_Mo_look_3 : decode c_Mo_look 3 = .ok (.putfield 19, 3) := by decide +kernel
theorem d_Mo_look_6 : decode c_Mo_look 6 = .ok (.iconst 0, 1) := by decide +kernel
theorem d_Mo_look_7 : decode c_Mo_look 7 = .ok (.istore_n 1, 1) := by decide +kernel
theorem d_Mo_look_8 : decode c_Mo_look 8 = .ok (.iload_n 1, 1) := by decide +kernel
theorem d_Mo_look_9 : decode c_Mo_look 9 = .ok (.aload_n 0, 1) := by decide +kernel
theorem d_Mo_look_10 : decode c_Mo_look 10 = .ok (.getfield 111, 3) := by decide +kernel
theorem d_Mo_look_13 : decode c_Mo_look 13 = .ok (.if_icmp .ge 31, 3) := by decide +kernel
theorem d_Mo_look_16 : decode c_Mo_look 16 = .ok (.aload_n 0, 1) := by decide +kernel
theorem d_Mo_look_17 : decode c_Mo_look 17 = .ok (.iload_n 1, 1) := by decide +kernel
theorem d_Mo_look_18 : decode c_Mo_look 18 = .ok (.invokevirtual 140, 3) := by decide +kernel
theorem d_Mo_look_21 : decode c_Mo_look 21 = .ok (.istore_n 2, 1) := by decide +kernel
theorem d_Mo_look_22 : decode c_Mo_look 22 = .ok (.iload_n 2, 1) := by decide +kernel
theorem d_Mo_look_23 : decode c_Mo_look 23 = .ok (.ifCond .ge 6, 3) := by decide +kernel
theorem d_Mo_look_26 : decode c_Mo_look 26 = .ok (.goto 12, 3) := by decide +kernel
theorem d_Mo_look_29 : decode c_Mo_look 29 = .ok (.aload_n 0, 1) := by decide +kernel
theorem d_Mo_look_30 : decode c_Mo_look 30 = .ok (.iload_n 2, 1) := by decide +kernel
theorem d_Mo_look_31 : decode c_Mo_look 31 = .ok (.putfield 19, 3) := by decide +kernel
theorem d_Mo_look_34 : decode c_Mo_look 34 = .ok (.iconst (-1), 1) := by decide +kernel
theorem d_Mo_look_35 : decode c_Mo_look 35 = .ok (.iload_n 1, 1) := by decide +kernel
theorem d_Mo_look_36 : decode c_Mo_look 36 = .ok (.isub, 1) := by decide +kernel
theorem d_Mo_look_37 : decode c_Mo_look 37 = .ok (.ireturn, 1) := by decide +kernel
theorem d_Mo_look_38 : decode c_Mo_look 38 = .ok (.iinc 1 1, 3) := by decide +kernel
theorem d_Mo_look_41 : decode c_Mo_look 41 = .ok (.goto (-33), 3) := by decide +kernel
theorem d_Mo_look_44 : decode c_Mo_look 44 = .ok (.iconst 0, 1) := by decide +kernel
theorem d_Mo_look_45 : decode c_Mo_look 45 = .ok (.ireturn, 1) := by decide +kernel
set_option maxRecDepth 100000 in
set_option maxHeartbeats 16000000 in
/-- look() -/
theorem g_Mo_look (l : Launch) (G : va_G) (k : Nat → ClassId) (h0 : Nat) (s0 : Nat) (nf : Nat) (ma : Nat → Nat) (iv : Nat → Int32) (co : Int64) (tk : Nat → Nat) (ct : Nat → Nat) (wd : Nat → Int32) (OA : Nat → Nat) (OP : Nat → Nat) (OK : Nat → Nat) (En : Nat → Nat) (hnf : nf ≤ 4) (hct : ∀ f, f < 4 → ct f ≤ 200) (htk : ∀ g, g < 4 → tk g ≤ 3) : CI l y_Mo_look c_Mo_look 3 .int { frames := 4, cells := 0, slots := 0, locals := 95 } [.ref h0] G k s0 [(h0, .inr (8, moL ma (va_up iv 0 (nI nf)) co)), ((ma 0), .inl (k 0, 4, .inl (fun i => nI (tk i)))), ((ma 1), .inl (k 0, 800, .inl wd)), ((ma 2), .inl (k 0, 4, .inl (fun i => nI (ct i)))), ((ma 4), .inl (k 0, 20, .inl (fun i => nI (OA i)))), ((ma 5), .inl (k 0, 20, .inl (fun i => nI (OP i)))), ((ma 6), .inl (k 0, 20, .inl (fun i => nI (OK i)))), ((ma 3), .inl (k 0, 800, .inl (fun i => nI (En i))))] (fun (r : Int32) (u : (Nat → Nat → Nat) × Int32) => r = lkN (fbN wd tk ct nf nf) ∧ True) (fun u => [(h0, .inr (8, moL ma (va_up (va_up (va_up iv 0 (nI nf)) 2 u.2) 1 (plN (fbN wd tk ct nf nf))) co)), ((ma 0), .inl (k 0, 4, .inl (fun i => nI (tk i)))), ((ma 1), .inl (k 0, 800, .inl wd)), ((ma 2), .inl (k 0, 4, .inl (fun i => nI (ct i)))), ((ma 4), .inl (k 0, 20, .inl (fun i => nI (u.1 0 i)))), ((ma 5), .inl (k 0, 20, .inl (fun i => nI (u.1 1 i)))), ((ma 6), .inl (k 0, 20, .inl (fun i => nI (u.1 2 i)))), ((ma 3), .inl (k 0, 800, .inl (fun i => nI (u.1 3 i))))]) 0 0 := by
  refine met_start (by decide) (Nat.le_of_ble_eq_true rfl) ?_
  intro p e s m below meth c C K hA hsz S ls hl
  generalize va_A [(h0, .inr (8, moL ma (va_up iv 0 (nI nf)) co)), ((ma 0), .inl (k 0, 4, .inl (fun i => nI (tk i)))), ((ma 1), .inl (k 0, 800, .inl wd)), ((ma 2), .inl (k 0, 4, .inl (fun i => nI (ct i)))), ((ma 4), .inl (k 0, 20, .inl (fun i => nI (OA i)))), ((ma 5), .inl (k 0, 20, .inl (fun i => nI (OP i)))), ((ma 6), .inl (k 0, 20, .inl (fun i => nI (OK i)))), ((ma 3), .inl (k 0, 800, .inl (fun i => nI (En i))))] s0 = A at hA S ⊢
  have hx := C.1
  have hb := C.2.1
  have hl : lv_has ls 3 [(0, .ref h0)] := hl
  refine lv_aload_n hx hb d_Mo_look_0 rfl (lv_at hl 0 rfl) ?_
  refine lv_bipush (v := (-2)) hx hb d_Mo_look_1 (by decide) ?_
  refine r_put C K S 0 rfl rfl clOk_Mo 4 (by decide) wf_Mo_19 rfl (ty := .int) (v := .int (-2)) (by decide +kernel) rfl rfl (Nat.le_of_ble_eq_true rfl) (fs' := moL ma (va_up (va_up iv 0 (nI nf)) 1 (-2)) co) (ws' := [(h0, .inr (8, moL ma (va_up (va_up iv 0 (nI nf)) 1 (-2)) co)), ((ma 0), .inl (k 0, 4, .inl (fun i => nI (tk i)))), ((ma 1), .inl (k 0, 800, .inl wd)), ((ma 2), .inl (k 0, 4, .inl (fun i => nI (ct i)))), ((ma 4), .inl (k 0, 20, .inl (fun i => nI (OA i)))), ((ma 5), .inl (k 0, 20, .inl (fun i => nI (OP i)))), ((ma 6), .inl (k 0, 20, .inl (fun i => nI (OK i)))), ((ma 3), .inl (k 0, 800, .inl (fun i => nI (En i))))]) rfl rfl d_Mo_look_3 (fun H locs S => ?_)
  refine lv_iconst (v := 0) hx hb d_Mo_look_6 (by decide) ?_
  refine lv_istore_n (lv' := [(1, .int 0), (0, .ref h0)]) hx hb d_Mo_look_7 rfl hl (by decide) rfl (fun ls hl => ?_)
  have lp : ∀ d9, ∀ (fi : Nat), ∀ (OA9 : Nat → Nat), ∀ (OP9 : Nat → Nat), ∀ (OK9 : Nat → Nat), ∀ (En9 : Nat → Nat), ∀ (op9 : Int32), (nf - fi) < d9 → (fi ≤ nf) → (fbN wd tk ct nf fi = none) → ∀ (H : Heap) (locs : List Loc), Sw G A s.heap H locs [(h0, .inr (8, moL ma (va_up (va_up (va_up iv 0 (nI nf)) 2 op9) 1 (-2)) co)), ((ma 0), .inl (k 0, 4, .inl (fun i => nI (tk i)))), ((ma 1), .inl (k 0, 800, .inl wd)), ((ma 2), .inl (k 0, 4, .inl (fun i => nI (ct i)))), ((ma 4), .inl (k 0, 20, .inl (fun i => nI (OA9 i)))), ((ma 5), .inl (k 0, 20, .inl (fun i => nI (OP9 i)))), ((ma 6), .inl (k 0, 20, .inl (fun i => nI (OK9 i)))), ((ma 3), .inl (k 0, 800, .inl (fun i => nI (En9 i))))] → ∀ ls : Array Slot, lv_has ls 3 [(1, .int (nI fi)), (0, .ref h0)] → W p l e { frames := 4, cells := 0, slots := 0, locals := 95 } s m [Value.ref h0].toArray below meth c H locs 0 0 (MQ below (va_Qi (fun (r : Int32) (u : (Nat → Nat → Nat) × Int32) => r = lkN (fbN wd tk ct nf nf) ∧ True) (Po G k A (fun u => [(h0, .inr (8, moL ma (va_up (va_up (va_up iv 0 (nI nf)) 2 u.2) 1 (plN (fbN wd tk ct nf nf))) co)), ((ma 0), .inl (k 0, 4, .inl (fun i => nI (tk i)))), ((ma 1), .inl (k 0, 800, .inl wd)), ((ma 2), .inl (k 0, 4, .inl (fun i => nI (ct i)))), ((ma 4), .inl (k 0, 20, .inl (fun i => nI (u.1 0 i)))), ((ma 5), .inl (k 0, 20, .inl (fun i => nI (u.1 1 i)))), ((ma 6), .inl (k 0, 20, .inl (fun i => nI (u.1 2 i)))), ((ma 3), .inl (k 0, 800, .inl (fun i => nI (u.1 3 i))))])) A) [Value.ref h0].toArray s 0 0 A) (F0 m 8 ls []) := by
    intro d9
    induction d9 with
    | zero => intro fi OA9 OP9 OK9 En9 op9 hm; exact absurd hm (Nat.not_lt_zero _)
    | succ d9 ih_lp =>
      intro fi OA9 OP9 OK9 En9 op9 hm hfi hfb H locs S ls hl
      refine lv_iload_n hx hb d_Mo_look_8 rfl (lv_at hl 0 rfl) ?_
      refine lv_aload_n hx hb d_Mo_look_9 rfl (lv_at hl 1 rfl) ?_
      refine r_get C K S 0 rfl rfl clOk_Mo 0 (by decide) wf_Mo_111 (v := .int (nI nf)) rfl d_Mo_look_10 ?_
      refine z_icmp_ge (a := fi) (b := nf) (tgt := 44) hx hb d_Mo_look_13 (by decide) (by omega) (by omega) (fun hc1 => ?_) (fun hc1 => ?_)
      · refine lv_iconst (v := 0) hx hb d_Mo_look_44 (by decide) ?_
        have hfn : fbN wd tk ct nf nf = none := (show fi = nf by omega) ▸ hfb
        have S : Sw G A s.heap H locs [(h0, .inr (8, moL ma (va_up (va_up (va_up iv 0 (nI nf)) 2 op9) 1 (plN (fbN wd tk ct nf nf))) co)), ((ma 0), .inl (k 0, 4, .inl (fun i => nI (tk i)))), ((ma 1), .inl (k 0, 800, .inl wd)), ((ma 2), .inl (k 0, 4, .inl (fun i => nI (ct i)))), ((ma 4), .inl (k 0, 20, .inl (fun i => nI (OA9 i)))), ((ma 5), .inl (k 0, 20, .inl (fun i => nI (OP9 i)))), ((ma 6), .inl (k 0, 20, .inl (fun i => nI (OK9 i)))), ((ma 3), .inl (k 0, 800, .inl (fun i => nI (En9 i))))] := by rw [hfn]; exact S
        exact r_iret C K rfl (uz [OA9, OP9, OK9, En9], op9) ⟨by rw [hfn]; rfl, trivial⟩ (S.sub [0, 1, 2, 3, 4, 5, 6, 7] (by decide) rfl) d_Mo_look_45 (Nat.le_of_ble_eq_true rfl) (Nat.le_of_ble_eq_true rfl)
      · refine lv_aload_n hx hb d_Mo_look_16 rfl (lv_at hl 1 rfl) ?_
        refine lv_iload_n hx hb d_Mo_look_17 rfl (lv_at hl 0 rfl) ?_
        refine r_backi (wi := [(h0, .inr (8, moL ma (va_up (va_up (va_up iv 2 op9) 1 (-2)) 0 (nI nf)) co)), ((ma 0), .inl (k 0, 4, .inl (fun i => nI (tk i)))), ((ma 1), .inl (k 0, 800, .inl wd)), ((ma 2), .inl (k 0, 4, .inl (fun i => nI (ct i)))), ((ma 4), .inl (k 0, 20, .inl (fun i => nI (OA9 i)))), ((ma 5), .inl (k 0, 20, .inl (fun i => nI (OP9 i)))), ((ma 6), .inl (k 0, 20, .inl (fun i => nI (OK9 i)))), ((ma 3), .inl (k 0, 800, .inl (fun i => nI (En9 i))))]) (wr := []) S hA [0, 1, 2, 3, 4, 5, 6, 7] [] rfl rfl (by decide) (by decide) (va_runV (As := [.int (nI fi)]) (rest := []) ⟨hx, hb, C.2.2.1, C.2.2.2.1, C.2.2.2.2.1⟩ (g_Mo_wrong l G k h0 _ fi nf ma (va_up (va_up iv 2 op9) 1 (-2)) co tk ct wd OA9 OP9 OK9 En9 (by omega) (hct fi (by omega)) hnf htk) (k_virt (n := 1) C wc_Mo_wrong rfl rfl wz_Mo wm_Mo_140 wn_Mo_wrong ws_Mo_wrong (by decide +kernel) ⟨(Nat.le_of_ble_eq_true rfl), (Nat.le_of_ble_eq_true rfl)⟩) (pr_nowV K S [0, 1, 2, 3, 4, 5, 6, 7] (by decide) rfl 0 rfl rfl) rfl rfl hl.1 rfl (lv_room (Nat.le_of_ble_eq_true rfl)) d_Mo_look_18 ⟨(Nat.le_of_ble_eq_true rfl), (Nat.le_of_ble_eq_true rfl)⟩) (fun r3 wu H locs hw2 S => ?_)
        have S : Sw G A s.heap _ _ [(h0, .inr (8, moL ma (va_up (va_up (va_up iv 1 (-2)) 0 (nI nf)) 2 (nI wu.2)) co)), ((ma 0), .inl (k 0, 4, .inl (fun i => nI (tk i)))), ((ma 1), .inl (k 0, 800, .inl wd)), ((ma 2), .inl (k 0, 4, .inl (fun i => nI (ct i)))), ((ma 4), .inl (k 0, 20, .inl (fun i => nI (wu.1 0 i)))), ((ma 5), .inl (k 0, 20, .inl (fun i => nI (wu.1 1 i)))), ((ma 6), .inl (k 0, 20, .inl (fun i => nI (wu.1 2 i)))), ((ma 3), .inl (k 0, 800, .inl (fun i => nI (wu.1 3 i))))] := S
        obtain ⟨hw20, ⟨hw1, hw2⟩⟩ := hw2
        obtain rfl : r3 = bI (wrR (ct fi) (prs (wdF wd fi) tk nf (ct fi) 16 (tk fi) 0 0 (enF En9 fi))) := hw20
        have hwr := (wrR_any (cnt := ct fi) (prs_any (W := wdF wd fi) (tk := tk) (nf := nf) (cnt := ct fi) 16 (tk fi) 0 0 (enF En9 fi) (fun _ => 0)))
        rw [hwr]
        have hwn : wrR (ct fi) (prs (wdF wd fi) tk nf (ct fi) 16 (tk fi) 0 0 (fun _ => 0)) = wrN wd tk ct nf fi := rfl
        rw [hwn] at hwr ⊢
        cases hwc : wrN wd tk ct nf fi with
        | none =>
          rw [hwc] at hwr
          show W _ _ _ _ _ _ _ _ _ _ _ _ _ _ _ (F0 m _ ls [.int (-1)])
          have hbd : bodyO wd tk ct nf (wu.1 3) fi := by
            exact body_of hnf (htk fi (by omega)) hwr hw1
          refine lv_istore_n (lv' := [(2, .int (-1)), (1, .int (nI fi)), (0, .ref h0)]) hx hb d_Mo_look_21 rfl hl (by decide) rfl (fun ls hl => ?_)
          refine lv_iload_n hx hb d_Mo_look_22 rfl (lv_at hl 0 rfl) ?_
          refine lv_if_ge (tgt := 29) hx hb d_Mo_look_23 (by decide) (fun hq => absurd hq (by decide)) (fun _ => ?_)
          refine lv_goto (tgt := 38) hx hb d_Mo_look_26 (by decide) ?_
          refine lv_iinc (v := nI (fi + 1)) (lv' := [(1, .int (nI (fi + 1))), (2, .int (-1)), (0, .ref h0)]) hx hb d_Mo_look_38 hl (k := 1) rfl (show nI fi + Int32.ofInt 1 = nI (fi + 1) from (nI_add fi 1).trans (congrArg nI (by omega))) (by decide) rfl (fun ls hl => ?_)
          refine lv_goto (tgt := 8) hx hb d_Mo_look_41 (by decide) ?_
          exact ih_lp (fi + 1) (wu.1 0) (wu.1 1) (wu.1 2) (wu.1 3) (nI wu.2) (by omega) (by omega) (fb_none hfb hwc) _ _ (S.sub [0, 1, 2, 3, 4, 5, 6, 7] (by decide) rfl) ls (lv_sub hl [0, 2] rfl)
        | some b9 =>
          rw [hwc] at hwr
          show W _ _ _ _ _ _ _ _ _ _ _ _ _ _ _ (F0 m _ ls [.int (nI b9)])
          have hbd : True := by
            trivial
          have hb9 := wrN_b hwc (hct fi (by omega))
          refine lv_istore_n (lv' := [(2, .int (nI b9)), (1, .int (nI fi)), (0, .ref h0)]) hx hb d_Mo_look_21 rfl hl (by decide) rfl (fun ls hl => ?_)
          refine lv_iload_n hx hb d_Mo_look_22 rfl (lv_at hl 0 rfl) ?_
          refine z_if_ge (a := b9) (tgt := 29) hx hb d_Mo_look_23 (by decide) (by omega) ?_
          refine lv_aload_n hx hb d_Mo_look_29 rfl (lv_at hl 2 rfl) ?_
          refine lv_iload_n hx hb d_Mo_look_30 rfl (lv_at hl 0 rfl) ?_
          refine r_put C K S 0 rfl rfl clOk_Mo 4 (by decide) wf_Mo_19 rfl (ty := .int) (v := .int (nI b9)) (by decide +kernel) rfl rfl (Nat.le_of_ble_eq_true rfl) (fs' := moL ma (va_up (va_up (va_up iv 0 (nI nf)) 2 (nI wu.2)) 1 (nI b9)) co) (ws' := [(h0, .inr (8, moL ma (va_up (va_up (va_up iv 0 (nI nf)) 2 (nI wu.2)) 1 (nI b9)) co)), ((ma 0), .inl (k 0, 4, .inl (fun i => nI (tk i)))), ((ma 1), .inl (k 0, 800, .inl wd)), ((ma 2), .inl (k 0, 4, .inl (fun i => nI (ct i)))), ((ma 4), .inl (k 0, 20, .inl (fun i => nI (wu.1 0 i)))), ((ma 5), .inl (k 0, 20, .inl (fun i => nI (wu.1 1 i)))), ((ma 6), .inl (k 0, 20, .inl (fun i => nI (wu.1 2 i)))), ((ma 3), .inl (k 0, 800, .inl (fun i => nI (wu.1 3 i))))]) rfl rfl d_Mo_look_31 (fun H locs S => ?_)
          refine lv_iconst (v := (-1)) hx hb d_Mo_look_34 (by decide) ?_
          refine lv_iload_n hx hb d_Mo_look_35 rfl (lv_at hl 1 rfl) ?_
          refine lv_isub hx hb d_Mo_look_36 ?_
          have hfn : fbN wd tk ct nf nf = some (fi, b9) := by
            obtain ⟨d, hd⟩ : ∃ d, nf = fi + 1 + d := ⟨nf - (fi + 1), by omega⟩
            have := fb_some hfb hwc d
            rw [← hd] at this
            exact this
          have S : Sw G A s.heap H locs [(h0, .inr (8, moL ma (va_up (va_up (va_up iv 0 (nI nf)) 2 (nI wu.2)) 1 (plN (fbN wd tk ct nf nf))) co)), ((ma 0), .inl (k 0, 4, .inl (fun i => nI (tk i)))), ((ma 1), .inl (k 0, 800, .inl wd)), ((ma 2), .inl (k 0, 4, .inl (fun i => nI (ct i)))), ((ma 4), .inl (k 0, 20, .inl (fun i => nI (wu.1 0 i)))), ((ma 5), .inl (k 0, 20, .inl (fun i => nI (wu.1 1 i)))), ((ma 6), .inl (k 0, 20, .inl (fun i => nI (wu.1 2 i)))), ((ma 3), .inl (k 0, 800, .inl (fun i => nI (wu.1 3 i))))] := by rw [hfn]; exact S
          exact r_iret C K rfl (uz [wu.1 0, wu.1 1, wu.1 2, wu.1 3], nI wu.2) ⟨by rw [hfn]; rfl, trivial⟩ (S.sub [0, 1, 2, 3, 4, 5, 6, 7] (by decide) rfl) d_Mo_look_37 (Nat.le_of_ble_eq_true rfl) (Nat.le_of_ble_eq_true rfl)
  exact lp _ 0 OA OP OK En (iv 2) (Nat.lt_succ_self _) (by omega) rfl _ _ (S.sub [0, 1, 2, 3, 4, 5, 6, 7] (by decide) rfl) ls (lv_sub hl [0, 1] rfl)
end
section
def uiN (un : Nat) : Nat := if un + 1 < 40 then un else 39
def fuN (un fl : Nat) : Nat := if 40 ≤ un then 1 else fl
def cxN (co : Nat) : Nat := if co + 1 < 90 then co else 89
def fcN (co fl : Nat) : Nat := if 90 ≤ co then 1 else fl
theorem uiN_lt (un : Nat) : uiN un < 40 := by
  unfold uiN
  split <;> omega
theorem cxN_lt (co : Nat) : cxN co < 90 := by
  unfold cxN
  split <;> omega
/-- full is told just when there are too many -/
def flO (un co fl : Nat) : Prop := fl = if 40 < un ∨ 90 < co then 1 else 0
theorem flO_le {un co fl : Nat} (h : flO un co fl) : fl ≤ 1 := by
  unfold flO at h
  rw [h]
  split <;> omega
theorem flO_u {un co fl : Nat} (h : flO un co fl) : flO (un + 1) co (fuN un fl) := by
  unfold flO fuN at *
  by_cases q : 40 ≤ un
  · rw [if_pos q, if_pos (by omega)]
  · rw [if_neg q, h]
    by_cases w : 40 < un ∨ 90 < co
    · rw [if_pos w, if_pos (by omega)]
    · rw [if_neg w, if_neg (by omega)]
theorem flO_c {un co fl : Nat} (h : flO un co fl) : flO un (co + 1) (fcN co fl) := by
  unfold flO fcN at *
  by_cases q : 90 ≤ co
  · rw [if_pos q, if_pos (by omega)]
  · rw [if_neg q, h]
    by_cases w : 40 < un ∨ 90 < co
    · rw [if_pos w, if_pos (by omega)]
    · rw [if_neg w, if_neg (by omega)]
/-- the conditions are not large -/
def smO (co : Nat) (sm : Nat → Int64) : Prop := ∀ x, x < co → x < 90 → lz sm x ≤ 65000
theorem smO_s {co : Nat} {sm sm2 : Nat → Int64} (h : smO co sm) (h1 : ∀ x, x ≠ cxN co → lz sm2 x = lz sm x) (h2 : lz sm2 (cxN co) ≤ 65000) : smO (co + 1) sm2 := by
  intro x hx hx2
  by_cases q : x = cxN co
  · rw [q]; exact h2
  · rw [h1 x q]
    refine h x ?_ hx2
    unfold cxN at q
    by_cases w : co + 1 < 90
    · rw [if_pos w] at q; omega
    · rw [if_neg w] at q; omega
theorem lnT_0 (f g : Nat → Int64) (fr to : Nat) : lnT f g fr to 0 = f := by
  funext i
  exact if_neg (by omega)
theorem lnT_s (f g : Nat → Int64) (fr to t : Nat) : va_up (lnT f g fr to t) (to + t) (f (to + t) - g (fr + t)) = lnT f g fr to (t + 1) := by
  funext i
  unfold va_up lnT
  by_cases q : i = to + t
  · rw [if_pos q, if_pos (by omega), q, Nat.add_sub_cancel_left]
  · rw [if_neg q]
    by_cases q2 : to ≤ i ∧ i < to + t
    · rw [if_pos q2, if_pos (by omega)]
    · rw [if_neg q2, if_neg (by omega)]
theorem lnT_own {f g : Nat → Int64} {fr to t : Nat} : lnT f g fr to t (to + t) = f (to + t) := if_neg (by omega)
theorem l1_inc (x : Int64) : l1 (x + 1) ≤ l1 x + 1 := by
  have := l1_add x 1
  rw [l1_1] at this
  exact this
theorem l1_dec (x : Int64) : l1 (x - 1) ≤ l1 x + 1 := by
  have := l1_sub x 1
  rw [l1_1] at this
  exact this
theorem d_Mo_newUnknown_0 : decode c_Mo_newUnknown 0 = .ok (.aload_n 0, 1) := by decide +kernel
theorem d_Mo_newUnknown_1 : decode c_Mo_newUnknown 1 = .ok (.getfield 192, 3) := by decide +kernel
theorem d_Mo_newUnknown_4 : decode c_Mo_newUnknown 4 = .ok (.bipush 40, 2) := by decide +kernel
theorem d_Mo_newUnknown_6 : decode c_Mo_newUnknown 6 = .ok (.if_icmp .lt 8, 3) := by decide +kernel
theorem d_Mo_newUnknown_9 : decode c_Mo_newUnknown 9 = .ok (.aload_n 0, 1) := by decide +kernel
theorem d_Mo_newUnknown_10 : decode c_Mo_newUnknown 10 = .ok (.iconst 1, 1) := by decide +kernel
theorem d_Mo_newUnknown_11 : decode c_Mo_newUnknown 11 = .ok (.putfield 195, 3) := by decide +kernel
theorem d_Mo_newUnknown_14 : decode c_Mo_newUnknown 14 = .ok (.aload_n 0, 1) := by decide +kernel
theorem d_Mo_newUnknown_15 : decode c_Mo_newUnknown 15 = .ok (.dup, 1) := by decide +kernel
theorem d_Mo_newUnknown_16 : decode c_Mo_newUnknown 16 = .ok (.getfield 192, 3) := by decide +kernel
theorem d_Mo_newUnknown_19 : decode c_Mo_newUnknown 19 = .ok (.iconst 1, 1) := by decide +kernel
theorem d_Mo_newUnknown_20 : decode c_Mo_newUnknown 20 = .ok (.iadd, 1) := by decide +kernel
theorem d_Mo_newUnknown_21 : decode c_Mo_newUnknown 21 = .ok (.putfield 192, 3) := by decide +kernel
theorem d_Mo_newUnknown_24 : decode c_Mo_newUnknown 24 = .ok (.aload_n 0, 1) := by decide +kernel
theorem d_Mo_newUnknown_25 : decode c_Mo_newUnknown 25 = .ok (.getfield 192, 3) := by decide +kernel
theorem d_Mo_newUnknown_28 : decode c_Mo_newUnknown 28 = .ok (.bipush 40, 2) := by decide +kernel
theorem d_Mo_newUnknown_30 : decode c_Mo_newUnknown 30 = .ok (.if_icmp .ge 10, 3) := by decide +kernel
theorem d_Mo_newUnknown_33 : decode c_Mo_newUnknown 33 = .ok (.aload_n 0, 1) := by decide +kernel
theorem d_Mo_newUnknown_34 : decode c_Mo_newUnknown 34 = .ok (.getfield 192, 3) := by decide +kernel
theorem d_Mo_newUnknown_37 : decode c_Mo_newUnknown 37 = .ok (.goto 5, 3) := by decide +kernel
theorem d_Mo_newUnknown_40 : decode c_Mo_newUnknown 40 = .ok (.bipush 40, 2) := by decide +kernel
theorem d_Mo_newUnknown_42 : decode c_Mo_newUnknown 42 = .ok (.iconst 1, 1) := by decide +kernel
theorem d_Mo_newUnknown_43 : decode c_Mo_newUnknown 43 = .ok (.isub, 1) := by decide +kernel
theorem d_Mo_newUnknown_44 : decode c_Mo_newUnknown 44 = .ok (.ireturn, 1) := by decide +kernel
set_option maxRecDepth 100000 in
set_option maxHeartbeats 16000000 in
/-- newUnknown() -/
theorem g_Mo_newUnknown (l : Launch) (G : va_G) (k : Nat → ClassId) (h0 : Nat) (s0 : Nat) (un : Nat) (fl : Nat) (ma : Nat → Nat) (iv : Nat → Int32) (co : Int64) (hun : un ≤ 10000) (hfl : fl ≤ 1) : CI l y_Mo_newUnknown c_Mo_newUnknown 1 .int { frames := 0, cells := 0, slots := 0, locals := 0 } [.ref h0] G k s0 [(h0, .inr (8, moL ma (va_up (va_up iv 14 (nI un)) 16 (nI fl)) co))] (fun (r : Int32) (u : Unit) => r = nI (uiN un) ∧ True) (fun u => [(h0, .inr (8, moL ma (va_up (va_up iv 14 (nI (un + 1))) 16 (nI (fuN un fl))) co))]) 0 0 := by
  refine met_start (by decide) (Nat.le_of_ble_eq_true rfl) ?_
  intro p e s m below meth c C K hA hsz S ls hl
  generalize va_A [(h0, .inr (8, moL ma (va_up (va_up iv 14 (nI un)) 16 (nI fl)) co))] s0 = A at hA S ⊢
  have hx := C.1
  have hb := C.2.1
  have hl : lv_has ls 1 [(0, .ref h0)] := hl
  refine lv_aload_n hx hb d_Mo_newUnknown_0 rfl (lv_at hl 0 rfl) ?_
  refine r_get C K S 0 rfl rfl clOk_Mo 29 (by decide) wf_Mo_192 (v := .int (nI un)) rfl d_Mo_newUnknown_1 ?_
  refine lv_bipush (v := 40) hx hb d_Mo_newUnknown_4 (by decide) ?_
  refine z_icmp_lt (a := un) (b := 40) (tgt := 14) hx hb d_Mo_newUnknown_6 (by decide) (by omega) (by omega) (fun hc1 => ?_) (fun hc1 => ?_)
  · refine lv_aload_n hx hb d_Mo_newUnknown_14 rfl (lv_at hl 0 rfl) ?_
    refine lv_dup hx hb d_Mo_newUnknown_15 rfl ?_
    refine r_get C K S 0 rfl rfl clOk_Mo 29 (by decide) wf_Mo_192 (v := .int (nI un)) rfl d_Mo_newUnknown_16 ?_
    refine lv_iconst (v := 1) hx hb d_Mo_newUnknown_19 (by decide) ?_
    refine z_iadd (x := nI un) (y := 1) (v := nI (un + 1)) hx hb d_Mo_newUnknown_20 (nI_add un 1) ?_
    refine r_put C K S 0 rfl rfl clOk_Mo 29 (by decide) wf_Mo_192 rfl (ty := .int) (v := .int (nI (un + 1))) (by decide +kernel) rfl rfl (Nat.le_of_ble_eq_true rfl) (fs' := moL ma (va_up (va_up iv 16 (nI fl)) 14 (nI (un + 1))) co) (ws' := [(h0, .inr (8, moL ma (va_up (va_up iv 16 (nI fl)) 14 (nI (un + 1))) co))]) rfl rfl d_Mo_newUnknown_21 (fun H locs S => ?_)
    refine lv_aload_n hx hb d_Mo_newUnknown_24 rfl (lv_at hl 0 rfl) ?_
    refine r_get C K S 0 rfl rfl clOk_Mo 29 (by decide) wf_Mo_192 (v := .int (nI (un + 1))) rfl d_Mo_newUnknown_25 ?_
    refine lv_bipush (v := 40) hx hb d_Mo_newUnknown_28 (by decide) ?_
    refine z_icmp_ge (a := (un + 1)) (b := 40) (tgt := 40) hx hb d_Mo_newUnknown_30 (by decide) (by omega) (by omega) (fun hc2 => ?_) (fun hc2 => ?_)
    · refine lv_bipush (v := 40) hx hb d_Mo_newUnknown_40 (by decide) ?_
      refine lv_iconst (v := 1) hx hb d_Mo_newUnknown_42 (by decide) ?_
      refine lv_isub hx hb d_Mo_newUnknown_43 ?_
      rw [show (40 : Int32) - 1 = 39 from by decide]
      have hf1 : fuN un fl = fl := if_neg (by omega)
      have S : Sw G A s.heap H locs [(h0, .inr (8, moL ma (va_up (va_up iv 14 (nI (un + 1))) 16 (nI (fuN un fl))) co))] := by rw [hf1]; exact S
      exact r_iret C K rfl () ⟨congrArg nI (show 39 = uiN un from (if_neg (by omega)).symm), trivial⟩ (S.sub [0] (by decide) rfl) d_Mo_newUnknown_44 (Nat.le_of_ble_eq_true rfl) (Nat.le_of_ble_eq_true rfl)
    · refine lv_aload_n hx hb d_Mo_newUnknown_33 rfl (lv_at hl 0 rfl) ?_
      refine r_get C K S 0 rfl rfl clOk_Mo 29 (by decide) wf_Mo_192 (v := .int (nI (un + 1))) rfl d_Mo_newUnknown_34 ?_
      refine lv_goto (tgt := 42) hx hb d_Mo_newUnknown_37 (by decide) ?_
      refine lv_iconst (v := 1) hx hb d_Mo_newUnknown_42 (by decide) ?_
      refine z_isub (x := nI (un + 1)) (y := 1) (v := nI (un + 1 - 1)) hx hb d_Mo_newUnknown_43 (pk_sub (a := (un + 1)) (b := 1) (by omega)) ?_
      have hf1 : fuN un fl = fl := if_neg (by omega)
      have S : Sw G A s.heap H locs [(h0, .inr (8, moL ma (va_up (va_up iv 14 (nI (un + 1))) 16 (nI (fuN un fl))) co))] := by rw [hf1]; exact S
      exact r_iret C K rfl () ⟨congrArg nI (show (un + 1 - 1) = uiN un from ((if_pos (by omega)).trans (by omega)).symm), trivial⟩ (S.sub [0] (by decide) rfl) d_Mo_newUnknown_44 (Nat.le_of_ble_eq_true rfl) (Nat.le_of_ble_eq_true rfl)
  · refine lv_aload_n hx hb d_Mo_newUnknown_9 rfl (lv_at hl 0 rfl) ?_
    refine lv_iconst (v := 1) hx hb d_Mo_newUnknown_10 (by decide) ?_
    refine r_put C K S 0 rfl rfl clOk_Mo 31 (by decide) wf_Mo_195 rfl (ty := .boolean) (v := .int 1) (by decide +kernel) rfl rfl (Nat.le_of_ble_eq_true rfl) (fs' := moL ma (va_up (va_up iv 14 (nI un)) 16 1) co) (ws' := [(h0, .inr (8, moL ma (va_up (va_up iv 14 (nI un)) 16 1) co))]) rfl rfl d_Mo_newUnknown_11 (fun H locs S => ?_)
    refine lv_aload_n hx hb d_Mo_newUnknown_14 rfl (lv_at hl 0 rfl) ?_
    refine lv_dup hx hb d_Mo_newUnknown_15 rfl ?_
    refine r_get C K S 0 rfl rfl clOk_Mo 29 (by decide) wf_Mo_192 (v := .int (nI un)) rfl d_Mo_newUnknown_16 ?_
    refine lv_iconst (v := 1) hx hb d_Mo_newUnknown_19 (by decide) ?_
    refine z_iadd (x := nI un) (y := 1) (v := nI (un + 1)) hx hb d_Mo_newUnknown_20 (nI_add un 1) ?_
    refine r_put C K S 0 rfl rfl clOk_Mo 29 (by decide) wf_Mo_192 rfl (ty := .int) (v := .int (nI (un + 1))) (by decide +kernel) rfl rfl (Nat.le_of_ble_eq_true rfl) (fs' := moL ma (va_up (va_up iv 16 1) 14 (nI (un + 1))) co) (ws' := [(h0, .inr (8, moL ma (va_up (va_up iv 16 1) 14 (nI (un + 1))) co))]) rfl rfl d_Mo_newUnknown_21 (fun H locs S => ?_)
    refine lv_aload_n hx hb d_Mo_newUnknown_24 rfl (lv_at hl 0 rfl) ?_
    refine r_get C K S 0 rfl rfl clOk_Mo 29 (by decide) wf_Mo_192 (v := .int (nI (un + 1))) rfl d_Mo_newUnknown_25 ?_
    refine lv_bipush (v := 40) hx hb d_Mo_newUnknown_28 (by decide) ?_
    refine z_icmp_ge (a := (un + 1)) (b := 40) (tgt := 40) hx hb d_Mo_newUnknown_30 (by decide) (by omega) (by omega) (fun hc4 => ?_) (fun hc4 => ?_)
    · refine lv_bipush (v := 40) hx hb d_Mo_newUnknown_40 (by decide) ?_
      refine lv_iconst (v := 1) hx hb d_Mo_newUnknown_42 (by decide) ?_
      refine lv_isub hx hb d_Mo_newUnknown_43 ?_
      rw [show (40 : Int32) - 1 = 39 from by decide]
      have hf1 : fuN un fl = 1 := if_pos (by omega)
      have S : Sw G A s.heap H locs [(h0, .inr (8, moL ma (va_up (va_up iv 14 (nI (un + 1))) 16 (nI (fuN un fl))) co))] := by rw [hf1]; exact S
      exact r_iret C K rfl () ⟨congrArg nI (show 39 = uiN un from (if_neg (by omega)).symm), trivial⟩ (S.sub [0] (by decide) rfl) d_Mo_newUnknown_44 (Nat.le_of_ble_eq_true rfl) (Nat.le_of_ble_eq_true rfl)
    · refine lv_aload_n hx hb d_Mo_newUnknown_33 rfl (lv_at hl 0 rfl) ?_
      refine r_get C K S 0 rfl rfl clOk_Mo 29 (by decide) wf_Mo_192 (v := .int (nI (un + 1))) rfl d_Mo_newUnknown_34 ?_
      refine lv_goto (tgt := 42) hx hb d_Mo_newUnknown_37 (by decide) ?_
      refine lv_iconst (v := 1) hx hb d_Mo_newUnknown_42 (by decide) ?_
      refine z_isub (x := nI (un + 1)) (y := 1) (v := nI (un + 1 - 1)) hx hb d_Mo_newUnknown_43 (pk_sub (a := (un + 1)) (b := 1) (by omega)) ?_
      have hf1 : fuN un fl = 1 := if_pos (by omega)
      have S : Sw G A s.heap H locs [(h0, .inr (8, moL ma (va_up (va_up iv 14 (nI (un + 1))) 16 (nI (fuN un fl))) co))] := by rw [hf1]; exact S
      exact r_iret C K rfl () ⟨congrArg nI (show (un + 1 - 1) = uiN un from ((if_pos (by omega)).trans (by omega)).symm), trivial⟩ (S.sub [0] (by decide) rfl) d_Mo_newUnknown_44 (Nat.le_of_ble_eq_true rfl) (Nat.le_of_ble_eq_true rfl)
theorem d_Mo_newCondition_0 : decode c_Mo_newCondition 0 = .ok (.aload_n 0, 1) := by decide +kernel
theorem d_Mo_newCondition_1 : decode c_Mo_newCondition 1 = .ok (.getfield 198, 3) := by decide +kernel
theorem d_Mo_newCondition_4 : decode c_Mo_newCondition 4 = .ok (.bipush 90, 2) := by decide +kernel
theorem d_Mo_newCondition_6 : decode c_Mo_newCondition 6 = .ok (.if_icmp .lt 8, 3) := by decide +kernel
theorem d_Mo_newCondition_9 : decode c_Mo_newCondition 9 = .ok (.aload_n 0, 1) := by decide +kernel
theorem d_Mo_newCondition_10 : decode c_Mo_newCondition 10 = .ok (.iconst 1, 1) := by decide +kernel
theorem d_Mo_newCondition_11 : decode c_Mo_newCondition 11 = .ok (.putfield 195, 3) := by decide +kernel
theorem d_Mo_newCondition_14 : decode c_Mo_newCondition 14 = .ok (.aload_n 0, 1) := by decide +kernel
theorem d_Mo_newCondition_15 : decode c_Mo_newCondition 15 = .ok (.dup, 1) := by decide +kernel
theorem d_Mo_newCondition_16 : decode c_Mo_newCondition 16 = .ok (.getfield 198, 3) := by decide +kernel
theorem d_Mo_newCondition_19 : decode c_Mo_newCondition 19 = .ok (.iconst 1, 1) := by decide +kernel
theorem d_Mo_newCondition_20 : decode c_Mo_newCondition 20 = .ok (.iadd, 1) := by decide +kernel
theorem d_Mo_newCondition_21 : decode c_Mo_newCondition 21 = .ok (.putfield 198, 3) := by decide +kernel
theorem d_Mo_newCondition_24 : decode c_Mo_newCondition 24 = .ok (.bipush 41, 2) := by decide +kernel
theorem d_Mo_newCondition_26 : decode c_Mo_newCondition 26 = .ok (.aload_n 0, 1) := by decide +kernel
theorem d_Mo_newCondition_27 : decode c_Mo_newCondition 27 = .ok (.getfield 198, 3) := by decide +kernel
theorem d_Mo_newCondition_30 : decode c_Mo_newCondition 30 = .ok (.bipush 90, 2) := by decide +kernel
theorem d_Mo_newCondition_32 : decode c_Mo_newCondition 32 = .ok (.if_icmp .ge 10, 3) := by decide +kernel
theorem d_Mo_newCondition_35 : decode c_Mo_newCondition 35 = .ok (.aload_n 0, 1) := by decide +kernel
theorem d_Mo_newCondition_36 : decode c_Mo_newCondition 36 = .ok (.getfield 198, 3) := by decide +kernel
theorem d_Mo_newCondition_39 : decode c_Mo_newCondition 39 = .ok (.goto 5, 3) := by decide +kernel
theorem d_Mo_newCondition_42 : decode c_Mo_newCondition 42 = .ok (.bipush 90, 2) := by decide +kernel
theorem d_Mo_newCondition_44 : decode c_Mo_newCondition 44 = .ok (.iconst 1, 1) := by decide +kernel
theorem d_Mo_newCondition_45 : decode c_Mo_newCondition 45 = .ok (.isub, 1) := by decide +kernel
theorem d_Mo_newCondition_46 : decode c_Mo_newCondition 46 = .ok (.imul, 1) := by decide +kernel
theorem d_Mo_newCondition_47 : decode c_Mo_newCondition 47 = .ok (.istore_n 1, 1) := by decide +kernel
theorem d_Mo_newCondition_48 : decode c_Mo_newCondition 48 = .ok (.iconst 0, 1) := by decide +kernel
theorem d_Mo_newCondition_49 : decode c_Mo_newCondition 49 = .ok (.istore_n 2, 1) := by decide +kernel
theorem d_Mo_newCondition_50 : decode c_Mo_newCondition 50 = .ok (.iload_n 2, 1) := by decide +kernel
theorem d_Mo_newCondition_51 : decode c_Mo_newCondition 51 = .ok (.bipush 41, 2) := by decide +kernel
theorem d_Mo_newCondition_53 : decode c_Mo_newCondition 53 = .ok (.if_icmp .ge 18, 3) := by decide +kernel
theorem d_Mo_newCondition_56 : decode c_Mo_newCondition 56 = .ok (.aload_n 0, 1) := by decide +kernel
theorem d_Mo_newCondition_57 : decode c_Mo_newCondition 57 = .ok (.getfield 64, 3) := by decide +kernel
theorem d_Mo_newCondition_60 : decode c_Mo_newCondition 60 = .ok (.iload_n 1, 1) := by decide +kernel
theorem d_Mo_newCondition_61 : decode c_Mo_newCondition 61 = .ok (.iload_n 2, 1) := by decide +kernel
theorem d_Mo_newCondition_62 : decode c_Mo_newCondition 62 = .ok (.iadd, 1) := by decide +kernel
theorem d_Mo_newCondition_63 : decode c_Mo_newCondition 63 = .ok (.lconst 0, 1) := by decide +kernel
theorem d_Mo_newCondition_64 : decode c_Mo_newCondition 64 = .ok (.lastore, 1) := by decide +kernel
theorem d_Mo_newCondition_65 : decode c_Mo_newCondition 65 = .ok (.iinc 2 1, 3) := by decide +kernel
theorem d_Mo_newCondition_68 : decode c_Mo_newCondition 68 = .ok (.goto (-18), 3) := by decide +kernel
theorem d_Mo_newCondition_71 : decode c_Mo_newCondition 71 = .ok (.iload_n 1, 1) := by decide +kernel
theorem d_Mo_newCondition_72 : decode c_Mo_newCondition 72 = .ok (.ireturn, 1) := by decide +kernel
set_option maxRecDepth 100000 in
set_option maxHeartbeats 16000000 in
/-- newCondition() -/
theorem g_Mo_newCondition (l : Launch) (G : va_G) (k : Nat → ClassId) (h0 : Nat) (s0 : Nat) (co9 : Nat) (fl : Nat) (ma : Nat → Nat) (iv : Nat → Int32) (co : Int64) (sm : Nat → Int64) (hco : co9 ≤ 10000) (hfl : fl ≤ 1) : CI l y_Mo_newCondition c_Mo_newCondition 3 .int { frames := 0, cells := 0, slots := 0, locals := 0 } [.ref h0] G k s0 [(h0, .inr (8, moL ma (va_up (va_up iv 15 (nI co9)) 16 (nI fl)) co)), ((ma 15), .inl (k 1, 3690, .inr (.inl sm)))] (fun (r : Int32) (u : Unit) => r = nI (cxN co9 * 41) ∧ True) (fun u => [(h0, .inr (8, moL ma (va_up (va_up iv 15 (nI (co9 + 1))) 16 (nI (fcN co9 fl))) co)), ((ma 15), .inl (k 1, 3690, .inr (.inl (lnC sm (cxN co9 * 41) 41))))]) 0 0 := by
  refine met_start (by decide) (Nat.le_of_ble_eq_true rfl) ?_
  intro p e s m below meth c C K hA hsz S ls hl
  generalize va_A [(h0, .inr (8, moL ma (va_up (va_up iv 15 (nI co9)) 16 (nI fl)) co)), ((ma 15), .inl (k 1, 3690, .inr (.inl sm)))] s0 = A at hA S ⊢
  have hx := C.1
  have hb := C.2.1
  have hl : lv_has ls 3 [(0, .ref h0)] := hl
  have cont : ∀ (H : Heap) (locs : List Loc), Sw G A s.heap H locs [(h0, .inr (8, moL ma (va_up (va_up iv 15 (nI (co9 + 1))) 16 (nI (fcN co9 fl))) co)), ((ma 15), .inl (k 1, 3690, .inr (.inl sm)))] → ∀ ls : Array Slot, lv_has ls 3 [(1, .int (nI (cxN co9 * 41))), (0, .ref h0)] → W p l e { frames := 0, cells := 0, slots := 0, locals := 0 } s m [Value.ref h0].toArray below meth c H locs 0 0 (MQ below (va_Qi (fun (r : Int32) (u : Unit) => r = nI (cxN co9 * 41) ∧ True) (Po G k A (fun u => [(h0, .inr (8, moL ma (va_up (va_up iv 15 (nI (co9 + 1))) 16 (nI (fcN co9 fl))) co)), ((ma 15), .inl (k 1, 3690, .inr (.inl (lnC sm (cxN co9 * 41) 41))))])) A) [Value.ref h0].toArray s 0 0 A) (F0 m 48 ls []) := by
    intro H locs S ls hl
    have hcx := cxN_lt co9
    refine lv_iconst (v := 0) hx hb d_Mo_newCondition_48 (by decide) ?_
    refine lv_istore_n (lv' := [(2, .int 0), (1, .int (nI (cxN co9 * 41))), (0, .ref h0)]) hx hb d_Mo_newCondition_49 rfl hl (by decide) rfl (fun ls hl => ?_)
    have S : Sw G A s.heap H locs [(h0, .inr (8, moL ma (va_up (va_up iv 15 (nI (co9 + 1))) 16 (nI (fcN co9 fl))) co)), ((ma 15), .inl (k 1, 3690, .inr (.inl (lnC sm (cxN co9 * 41) 0))))] := by rw [lnC_0]; exact S
    have lp : ∀ d9, ∀ (t : Nat), (41 - t) < d9 → (t ≤ 41) → ∀ (H : Heap) (locs : List Loc), Sw G A s.heap H locs [(h0, .inr (8, moL ma (va_up (va_up iv 15 (nI (co9 + 1))) 16 (nI (fcN co9 fl))) co)), ((ma 15), .inl (k 1, 3690, .inr (.inl (lnC sm (cxN co9 * 41) t))))] → ∀ ls : Array Slot, lv_has ls 3 [(2, .int (nI t)), (1, .int (nI (cxN co9 * 41))), (0, .ref h0)] → W p l e { frames := 0, cells := 0, slots := 0, locals := 0 } s m [Value.ref h0].toArray below meth c H locs 0 0 (MQ below (va_Qi (fun (r : Int32) (u : Unit) => r = nI (cxN co9 * 41) ∧ True) (Po G k A (fun u => [(h0, .inr (8, moL ma (va_up (va_up iv 15 (nI (co9 + 1))) 16 (nI (fcN co9 fl))) co)), ((ma 15), .inl (k 1, 3690, .inr (.inl (lnC sm (cxN co9 * 41) 41))))])) A) [Value.ref h0].toArray s 0 0 A) (F0 m 50 ls []) := by
      intro d9
      induction d9 with
      | zero => intro t hm; exact absurd hm (Nat.not_lt_zero _)
      | succ d9 ih_lp =>
        intro t hm ht H locs S ls hl
        refine lv_iload_n hx hb d_Mo_newCondition_50 rfl (lv_at hl 0 rfl) ?_
        refine lv_bipush (v := 41) hx hb d_Mo_newCondition_51 (by decide) ?_
        refine z_icmp_ge (a := t) (b := 41) (tgt := 71) hx hb d_Mo_newCondition_53 (by decide) (by omega) (by omega) (fun hc1 => ?_) (fun hc1 => ?_)
        · refine lv_iload_n hx hb d_Mo_newCondition_71 rfl (lv_at hl 1 rfl) ?_
          have ht9 : t = 41 := by omega
          have S : Sw G A s.heap H locs [(h0, .inr (8, moL ma (va_up (va_up iv 15 (nI (co9 + 1))) 16 (nI (fcN co9 fl))) co)), ((ma 15), .inl (k 1, 3690, .inr (.inl (lnC sm (cxN co9 * 41) 41))))] := by rw [ht9] at S; exact S
          exact r_iret C K rfl () ⟨rfl, trivial⟩ (S.sub [0, 1] (by decide) rfl) d_Mo_newCondition_72 (Nat.le_of_ble_eq_true rfl) (Nat.le_of_ble_eq_true rfl)
        · refine lv_aload_n hx hb d_Mo_newCondition_56 rfl (lv_at hl 2 rfl) ?_
          refine r_get C K S 0 rfl rfl clOk_Mo 33 (by decide) wf_Mo_64 (v := .ref (ma 15)) rfl d_Mo_newCondition_57 ?_
          refine lv_iload_n hx hb d_Mo_newCondition_60 rfl (lv_at hl 1 rfl) ?_
          refine lv_iload_n hx hb d_Mo_newCondition_61 rfl (lv_at hl 0 rfl) ?_
          refine z_iadd (x := nI (cxN co9 * 41)) (y := nI t) (v := nI (cxN co9 * 41 + t)) hx hb d_Mo_newCondition_62 (nI_add (cxN co9 * 41) t) ?_
          refine lv_lconst (v := 0) hx hb d_Mo_newCondition_63 (by decide) ?_
          refine r_last C K S 1 rfl (i := nI (cxN co9 * 41 + t)) (x := 0) (show vp_in (nI (cxN co9 * 41 + t)) _ from vp_in_nI (n := (cxN co9 * 41 + t)) (by omega) (by decide)) (f' := va_up (lnC sm (cxN co9 * 41) t) (cxN co9 * 41 + t) 0) (ws' := [(h0, .inr (8, moL ma (va_up (va_up iv 15 (nI (co9 + 1))) 16 (nI (fcN co9 fl))) co)), ((ma 15), .inl (k 1, 3690, .inr (.inl (va_up (lnC sm (cxN co9 * 41) t) (cxN co9 * 41 + t) 0))))]) (show vp_updL _ (nI (cxN co9 * 41 + t) : Int32).toNatClampNeg _ = _ from vp_updL_eq (lnC sm (cxN co9 * 41) t) (j := (cxN co9 * 41 + t)) (by omega) 0) rfl d_Mo_newCondition_64 (fun H locs S => ?_)
          have S : Sw G A s.heap H locs [(h0, .inr (8, moL ma (va_up (va_up iv 15 (nI (co9 + 1))) 16 (nI (fcN co9 fl))) co)), ((ma 15), .inl (k 1, 3690, .inr (.inl (lnC sm (cxN co9 * 41) (t + 1)))))] := by rw [lnC_s] at S; exact S
          refine lv_iinc (v := nI (t + 1)) (lv' := [(2, .int (nI (t + 1))), (1, .int (nI (cxN co9 * 41))), (0, .ref h0)]) hx hb d_Mo_newCondition_65 hl (k := 0) rfl (show nI t + Int32.ofInt 1 = nI (t + 1) from (nI_add t 1).trans (congrArg nI (by omega))) (by decide) rfl (fun ls hl => ?_)
          refine lv_goto (tgt := 50) hx hb d_Mo_newCondition_68 (by decide) ?_
          exact ih_lp (t + 1) (by omega) (by omega) _ _ (S.sub [0, 1] (by decide) rfl) ls (lv_sub hl [0, 1, 2] rfl)
    exact lp _ 0 (Nat.lt_succ_self _) (by omega) _ _ (S.sub [0, 1] (by decide) rfl) ls (lv_sub hl [0, 1, 2] rfl)
  refine lv_aload_n hx hb d_Mo_newCondition_0 rfl (lv_at hl 0 rfl) ?_
  refine r_get C K S 0 rfl rfl clOk_Mo 30 (by decide) wf_Mo_198 (v := .int (nI co9)) rfl d_Mo_newCondition_1 ?_
  refine lv_bipush (v := 90) hx hb d_Mo_newCondition_4 (by decide) ?_
  refine z_icmp_lt (a := co9) (b := 90) (tgt := 14) hx hb d_Mo_newCondition_6 (by decide) (by omega) (by omega) (fun hc2 => ?_) (fun hc2 => ?_)
  · refine lv_aload_n hx hb d_Mo_newCondition_14 rfl (lv_at hl 0 rfl) ?_
    refine lv_dup hx hb d_Mo_newCondition_15 rfl ?_
    refine r_get C K S 0 rfl rfl clOk_Mo 30 (by decide) wf_Mo_198 (v := .int (nI co9)) rfl d_Mo_newCondition_16 ?_
    refine lv_iconst (v := 1) hx hb d_Mo_newCondition_19 (by decide) ?_
    refine z_iadd (x := nI co9) (y := 1) (v := nI (co9 + 1)) hx hb d_Mo_newCondition_20 (nI_add co9 1) ?_
    refine r_put C K S 0 rfl rfl clOk_Mo 30 (by decide) wf_Mo_198 rfl (ty := .int) (v := .int (nI (co9 + 1))) (by decide +kernel) rfl rfl (Nat.le_of_ble_eq_true rfl) (fs' := moL ma (va_up (va_up iv 16 (nI fl)) 15 (nI (co9 + 1))) co) (ws' := [(h0, .inr (8, moL ma (va_up (va_up iv 16 (nI fl)) 15 (nI (co9 + 1))) co)), ((ma 15), .inl (k 1, 3690, .inr (.inl sm)))]) rfl rfl d_Mo_newCondition_21 (fun H locs S => ?_)
    refine lv_bipush (v := 41) hx hb d_Mo_newCondition_24 (by decide) ?_
    refine lv_aload_n hx hb d_Mo_newCondition_26 rfl (lv_at hl 0 rfl) ?_
    refine r_get C K S 0 rfl rfl clOk_Mo 30 (by decide) wf_Mo_198 (v := .int (nI (co9 + 1))) rfl d_Mo_newCondition_27 ?_
    refine lv_bipush (v := 90) hx hb d_Mo_newCondition_30 (by decide) ?_
    refine z_icmp_ge (a := (co9 + 1)) (b := 90) (tgt := 42) hx hb d_Mo_newCondition_32 (by decide) (by omega) (by omega) (fun hc3 => ?_) (fun hc3 => ?_)
    · refine lv_bipush (v := 90) hx hb d_Mo_newCondition_42 (by decide) ?_
      refine lv_iconst (v := 1) hx hb d_Mo_newCondition_44 (by decide) ?_
      refine lv_isub hx hb d_Mo_newCondition_45 ?_
      rw [show (90 : Int32) - 1 = 89 from by decide]
      refine lv_imul hx hb d_Mo_newCondition_46 ?_
      rw [show (41 : Int32) * 89 = 3649 from by decide]
      refine lv_istore_n (lv' := [(1, .int 3649), (0, .ref h0)]) hx hb d_Mo_newCondition_47 rfl hl (by decide) rfl (fun ls hl => ?_)
      have hf1 : fcN co9 fl = fl := if_neg (by omega)
      have hcx9 : 3649 = cxN co9 * 41 := by unfold cxN; split <;> omega
      have S : Sw G A s.heap H locs [(h0, .inr (8, moL ma (va_up (va_up iv 15 (nI (co9 + 1))) 16 (nI (fcN co9 fl))) co)), ((ma 15), .inl (k 1, 3690, .inr (.inl sm)))] := by rw [hf1]; exact S
      have hl : lv_has ls 3 [(1, .int (nI (cxN co9 * 41))), (0, .ref h0)] := by rw [← hcx9]; exact hl
      exact cont _ _ (S.sub [0, 1] (by decide) rfl) ls (lv_sub hl [0, 1] rfl)
    · refine lv_aload_n hx hb d_Mo_newCondition_35 rfl (lv_at hl 0 rfl) ?_
      refine r_get C K S 0 rfl rfl clOk_Mo 30 (by decide) wf_Mo_198 (v := .int (nI (co9 + 1))) rfl d_Mo_newCondition_36 ?_
      refine lv_goto (tgt := 44) hx hb d_Mo_newCondition_39 (by decide) ?_
      refine lv_iconst (v := 1) hx hb d_Mo_newCondition_44 (by decide) ?_
      refine z_isub (x := nI (co9 + 1)) (y := 1) (v := nI (co9 + 1 - 1)) hx hb d_Mo_newCondition_45 (pk_sub (a := (co9 + 1)) (b := 1) (by omega)) ?_
      refine z_imul (x := 41) (y := nI (co9 + 1 - 1)) (v := nI (41 * (co9 + 1 - 1))) hx hb d_Mo_newCondition_46 (pk_mul 41 (co9 + 1 - 1)) ?_
      refine lv_istore_n (lv' := [(1, .int (nI (41 * (co9 + 1 - 1)))), (0, .ref h0)]) hx hb d_Mo_newCondition_47 rfl hl (by decide) rfl (fun ls hl => ?_)
      have hf1 : fcN co9 fl = fl := if_neg (by omega)
      have hcx9 : (41 * (co9 + 1 - 1)) = cxN co9 * 41 := by unfold cxN; split <;> omega
      have S : Sw G A s.heap H locs [(h0, .inr (8, moL ma (va_up (va_up iv 15 (nI (co9 + 1))) 16 (nI (fcN co9 fl))) co)), ((ma 15), .inl (k 1, 3690, .inr (.inl sm)))] := by rw [hf1]; exact S
      have hl : lv_has ls 3 [(1, .int (nI (cxN co9 * 41))), (0, .ref h0)] := by rw [← hcx9]; exact hl
      exact cont _ _ (S.sub [0, 1] (by decide) rfl) ls (lv_sub hl [0, 1] rfl)
  · refine lv_aload_n hx hb d_Mo_newCondition_9 rfl (lv_at hl 0 rfl) ?_
    refine lv_iconst (v := 1) hx hb d_Mo_newCondition_10 (by decide) ?_
    refine r_put C K S 0 rfl rfl clOk_Mo 31 (by decide) wf_Mo_195 rfl (ty := .boolean) (v := .int 1) (by decide +kernel) rfl rfl (Nat.le_of_ble_eq_true rfl) (fs' := moL ma (va_up (va_up iv 15 (nI co9)) 16 1) co) (ws' := [(h0, .inr (8, moL ma (va_up (va_up iv 15 (nI co9)) 16 1) co)), ((ma 15), .inl (k 1, 3690, .inr (.inl sm)))]) rfl rfl d_Mo_newCondition_11 (fun H locs S => ?_)
    refine lv_aload_n hx hb d_Mo_newCondition_14 rfl (lv_at hl 0 rfl) ?_
    refine lv_dup hx hb d_Mo_newCondition_15 rfl ?_
    refine r_get C K S 0 rfl rfl clOk_Mo 30 (by decide) wf_Mo_198 (v := .int (nI co9)) rfl d_Mo_newCondition_16 ?_
    refine lv_iconst (v := 1) hx hb d_Mo_newCondition_19 (by decide) ?_
    refine z_iadd (x := nI co9) (y := 1) (v := nI (co9 + 1)) hx hb d_Mo_newCondition_20 (nI_add co9 1) ?_
    refine r_put C K S 0 rfl rfl clOk_Mo 30 (by decide) wf_Mo_198 rfl (ty := .int) (v := .int (nI (co9 + 1))) (by decide +kernel) rfl rfl (Nat.le_of_ble_eq_true rfl) (fs' := moL ma (va_up (va_up iv 16 1) 15 (nI (co9 + 1))) co) (ws' := [(h0, .inr (8, moL ma (va_up (va_up iv 16 1) 15 (nI (co9 + 1))) co)), ((ma 15), .inl (k 1, 3690, .inr (.inl sm)))]) rfl rfl d_Mo_newCondition_21 (fun H locs S => ?_)
    refine lv_bipush (v := 41) hx hb d_Mo_newCondition_24 (by decide) ?_
    refine lv_aload_n hx hb d_Mo_newCondition_26 rfl (lv_at hl 0 rfl) ?_
    refine r_get C K S 0 rfl rfl clOk_Mo 30 (by decide) wf_Mo_198 (v := .int (nI (co9 + 1))) rfl d_Mo_newCondition_27 ?_
    refine lv_bipush (v := 90) hx hb d_Mo_newCondition_30 (by decide) ?_
    refine z_icmp_ge (a := (co9 + 1)) (b := 90) (tgt := 42) hx hb d_Mo_newCondition_32 (by decide) (by omega) (by omega) (fun hc6 => ?_) (fun hc6 => ?_)
    · refine lv_bipush (v := 90) hx hb d_Mo_newCondition_42 (by decide) ?_
      refine lv_iconst (v := 1) hx hb d_Mo_newCondition_44 (by decide) ?_
      refine lv_isub hx hb d_Mo_newCondition_45 ?_
      rw [show (90 : Int32) - 1 = 89 from by decide]
      refine lv_imul hx hb d_Mo_newCondition_46 ?_
      rw [show (41 : Int32) * 89 = 3649 from by decide]
      refine lv_istore_n (lv' := [(1, .int 3649), (0, .ref h0)]) hx hb d_Mo_newCondition_47 rfl hl (by decide) rfl (fun ls hl => ?_)
      have hf1 : fcN co9 fl = 1 := if_pos (by omega)
      have hcx9 : 3649 = cxN co9 * 41 := by unfold cxN; split <;> omega
      have S : Sw G A s.heap H locs [(h0, .inr (8, moL ma (va_up (va_up iv 15 (nI (co9 + 1))) 16 (nI (fcN co9 fl))) co)), ((ma 15), .inl (k 1, 3690, .inr (.inl sm)))] := by rw [hf1]; exact S
      have hl : lv_has ls 3 [(1, .int (nI (cxN co9 * 41))), (0, .ref h0)] := by rw [← hcx9]; exact hl
      exact cont _ _ (S.sub [0, 1] (by decide) rfl) ls (lv_sub hl [0, 1] rfl)
    · refine lv_aload_n hx hb d_Mo_newCondition_35 rfl (lv_at hl 0 rfl) ?_
      refine r_get C K S 0 rfl rfl clOk_Mo 30 (by decide) wf_Mo_198 (v := .int (nI (co9 + 1))) rfl d_Mo_newCondition_36 ?_
      refine lv_goto (tgt := 44) hx hb d_Mo_newCondition_39 (by decide) ?_
      refine lv_iconst (v := 1) hx hb d_Mo_newCondition_44 (by decide) ?_
      refine z_isub (x := nI (co9 + 1)) (y := 1) (v := nI (co9 + 1 - 1)) hx hb d_Mo_newCondition_45 (pk_sub (a := (co9 + 1)) (b := 1) (by omega)) ?_
      refine z_imul (x := 41) (y := nI (co9 + 1 - 1)) (v := nI (41 * (co9 + 1 - 1))) hx hb d_Mo_newCondition_46 (pk_mul 41 (co9 + 1 - 1)) ?_
      refine lv_istore_n (lv' := [(1, .int (nI (41 * (co9 + 1 - 1)))), (0, .ref h0)]) hx hb d_Mo_newCondition_47 rfl hl (by decide) rfl (fun ls hl => ?_)
      have hf1 : fcN co9 fl = 1 := if_pos (by omega)
      have hcx9 : (41 * (co9 + 1 - 1)) = cxN co9 * 41 := by unfold cxN; split <;> omega
      have S : Sw G A s.heap H locs [(h0, .inr (8, moL ma (va_up (va_up iv 15 (nI (co9 + 1))) 16 (nI (fcN co9 fl))) co)), ((ma 15), .inl (k 1, 3690, .inr (.inl sm)))] := by rw [hf1]; exact S
      have hl : lv_has ls 3 [(1, .int (nI (cxN co9 * 41))), (0, .ref h0)] := by rw [← hcx9]; exact hl
      exact cont _ _ (S.sub [0, 1] (by decide) rfl) ls (lv_sub hl [0, 1] rfl)
theorem d_Mo_take_0 : decode c_Mo_take 0 = .ok (.iconst 0, 1) := by decide +kernel
theorem d_Mo_take_1 : decode c_Mo_take 1 = .ok (.istore_n 3, 1) := by decide +kernel
theorem d_Mo_take_2 : decode c_Mo_take 2 = .ok (.iload_n 3, 1) := by decide +kernel
theorem d_Mo_take_3 : decode c_Mo_take 3 = .ok (.bipush 41, 2) := by decide +kernel
theorem d_Mo_take_5 : decode c_Mo_take 5 = .ok (.if_icmp .ge 28, 3) := by decide +kernel
theorem d_Mo_take_8 : decode c_Mo_take 8 = .ok (.aload_n 0, 1) := by decide +kernel
theorem d_Mo_take_9 : decode c_Mo_take 9 = .ok (.getfield 64, 3) := by decide +kernel
theorem d_Mo_take_12 : decode c_Mo_take 12 = .ok (.iload_n 1, 1) := by decide +kernel
theorem d_Mo_take_13 : decode c_Mo_take 13 = .ok (.iload_n 3, 1) := by decide +kernel
theorem d_Mo_take_14 : decode c_Mo_take 14 = .ok (.iadd, 1) := by decide +kernel
theorem d_Mo_take_15 : decode c_Mo_take 15 = .ok (.dup2, 1) := by decide +kernel
theorem d_Mo_take_16 : decode c_Mo_take 16 = .ok (.laload, 1) := by decide +kernel
theorem d_Mo_take_17 : decode c_Mo_take 17 = .ok (.aload_n 0, 1) := by decide +kernel
theorem d_Mo_take_18 : decode c_Mo_take 18 = .ok (.getfield 57, 3) := by decide +kernel
theorem d_Mo_take_21 : decode c_Mo_take 21 = .ok (.iload_n 2, 1) := by decide +kernel
theorem d_Mo_take_22 : decode c_Mo_take 22 = .ok (.iload_n 3, 1) := by decide +kernel
theorem d_Mo_take_23 : decode c_Mo_take 23 = .ok (.iadd, 1) := by decide +kernel
theorem d_Mo_take_24 : decode c_Mo_take 24 = .ok (.laload, 1) := by decide +kernel
theorem d_Mo_take_25 : decode c_Mo_take 25 = .ok (.lsub, 1) := by decide +kernel
theorem d_Mo_take_26 : decode c_Mo_take 26 = .ok (.lastore, 1) := by decide +kernel
theorem d_Mo_take_27 : decode c_Mo_take 27 = .ok (.iinc 3 1, 3) := by decide +kernel
theorem d_Mo_take_30 : decode c_Mo_take 30 = .ok (.goto (-28), 3) := by decide +kernel
theorem d_Mo_take_33 : decode c_Mo_take 33 = .ok (.return_, 1) := by decide +kernel
set_option maxRecDepth 100000 in
set_option maxHeartbeats 16000000 in
/-- take(c9, x9) -/
theorem g_Mo_take (l : Launch) (G : va_G) (k : Nat → ClassId) (h0 : Nat) (s0 : Nat) (c9 : Nat) (x9 : Nat) (ma : Nat → Nat) (iv : Nat → Int32) (co : Int64) (L : Nat → Int64) (sm : Nat → Int64) (hc : c9 < 90) (hx9 : x9 < 902) : CV l y_Mo_take c_Mo_take 4 { frames := 0, cells := 0, slots := 0, locals := 0 } [.ref h0, .int (nI (c9 * 41)), .int (nI (x9 * 41))] G k s0 [(h0, .inr (8, moL ma iv co)), ((ma 13), .inl (k 1, 36982, .inr (.inl L))), ((ma 15), .inl (k 1, 3690, .inr (.inl sm)))] (fun (u : Unit) => True) (fun u => [(h0, .inr (8, moL ma iv co)), ((ma 13), .inl (k 1, 36982, .inr (.inl L))), ((ma 15), .inl (k 1, 3690, .inr (.inl (lnT sm L (x9 * 41) (c9 * 41) 41))))]) 0 0 := by
  refine met_start (by decide) (Nat.le_of_ble_eq_true rfl) ?_
  intro p e s m below meth c C K hA hsz S ls hl
  generalize va_A [(h0, .inr (8, moL ma iv co)), ((ma 13), .inl (k 1, 36982, .inr (.inl L))), ((ma 15), .inl (k 1, 3690, .inr (.inl sm)))] s0 = A at hA S ⊢
  have hx := C.1
  have hb := C.2.1
  have hl : lv_has ls 4 [(0, .ref h0), (1, .int (nI (c9 * 41))), (2, .int (nI (x9 * 41)))] := hl
  refine lv_iconst (v := 0) hx hb d_Mo_take_0 (by decide) ?_
  refine lv_istore_n (lv' := [(3, .int 0), (0, .ref h0), (1, .int (nI (c9 * 41))), (2, .int (nI (x9 * 41)))]) hx hb d_Mo_take_1 rfl hl (by decide) rfl (fun ls hl => ?_)
  have S : Sw G A s.heap s.heap [] [(h0, .inr (8, moL ma iv co)), ((ma 13), .inl (k 1, 36982, .inr (.inl L))), ((ma 15), .inl (k 1, 3690, .inr (.inl (lnT sm L (x9 * 41) (c9 * 41) 0))))] := by rw [lnT_0]; exact S
  have lp : ∀ d9, ∀ (t : Nat), (41 - t) < d9 → (t ≤ 41) → ∀ (H : Heap) (locs : List Loc), Sw G A s.heap H locs [(h0, .inr (8, moL ma iv co)), ((ma 13), .inl (k 1, 36982, .inr (.inl L))), ((ma 15), .inl (k 1, 3690, .inr (.inl (lnT sm L (x9 * 41) (c9 * 41) t))))] → ∀ ls : Array Slot, lv_has ls 4 [(3, .int (nI t)), (0, .ref h0), (1, .int (nI (c9 * 41))), (2, .int (nI (x9 * 41)))] → W p l e { frames := 0, cells := 0, slots := 0, locals := 0 } s m [Value.ref h0, Value.int (nI (c9 * 41)), Value.int (nI (x9 * 41))].toArray below meth c H locs 0 0 (MQ below (va_Qv (fun (u : Unit) => True) (Po G k A (fun u => [(h0, .inr (8, moL ma iv co)), ((ma 13), .inl (k 1, 36982, .inr (.inl L))), ((ma 15), .inl (k 1, 3690, .inr (.inl (lnT sm L (x9 * 41) (c9 * 41) 41))))])) A) [Value.ref h0, Value.int (nI (c9 * 41)), Value.int (nI (x9 * 41))].toArray s 0 0 A) (F0 m 2 ls []) := by
    intro d9
    induction d9 with
    | zero => intro t hm; exact absurd hm (Nat.not_lt_zero _)
    | succ d9 ih_lp =>
      intro t hm ht H locs S ls hl
      refine lv_iload_n hx hb d_Mo_take_2 rfl (lv_at hl 0 rfl) ?_
      refine lv_bipush (v := 41) hx hb d_Mo_take_3 (by decide) ?_
      refine z_icmp_ge (a := t) (b := 41) (tgt := 33) hx hb d_Mo_take_5 (by decide) (by omega) (by omega) (fun hc1 => ?_) (fun hc1 => ?_)
      · have ht9 : t = 41 := by omega
        have S : Sw G A s.heap H locs [(h0, .inr (8, moL ma iv co)), ((ma 13), .inl (k 1, 36982, .inr (.inl L))), ((ma 15), .inl (k 1, 3690, .inr (.inl (lnT sm L (x9 * 41) (c9 * 41) 41))))] := by rw [ht9] at S; exact S
        exact r_vret C K () trivial (S.sub [0, 1, 2] (by decide) rfl) d_Mo_take_33 (Nat.le_of_ble_eq_true rfl) (Nat.le_of_ble_eq_true rfl)
      · refine lv_aload_n hx hb d_Mo_take_8 rfl (lv_at hl 1 rfl) ?_
        refine r_get C K S 0 rfl rfl clOk_Mo 33 (by decide) wf_Mo_64 (v := .ref (ma 15)) rfl d_Mo_take_9 ?_
        refine lv_iload_n hx hb d_Mo_take_12 rfl (lv_at hl 2 rfl) ?_
        refine lv_iload_n hx hb d_Mo_take_13 rfl (lv_at hl 0 rfl) ?_
        refine z_iadd (x := nI (c9 * 41)) (y := nI t) (v := nI (c9 * 41 + t)) hx hb d_Mo_take_14 (nI_add (c9 * 41) t) ?_
        refine lv_dup2_11 hx hb d_Mo_take_15 rfl rfl ?_
        refine r_lald C K S 2 rfl (i := nI (c9 * 41 + t)) (show vp_in (nI (c9 * 41 + t)) _ from vp_in_nI (n := (c9 * 41 + t)) (by omega) (by decide)) (v := (lnT sm L (x9 * 41) (c9 * 41) t) (c9 * 41 + t)) (by rw [nI_clamp (by omega)]) d_Mo_take_16 ?_
        refine lv_aload_n hx hb d_Mo_take_17 rfl (lv_at hl 1 rfl) ?_
        refine r_get C K S 0 rfl rfl clOk_Mo 27 (by decide) wf_Mo_57 (v := .ref (ma 13)) rfl d_Mo_take_18 ?_
        refine lv_iload_n hx hb d_Mo_take_21 rfl (lv_at hl 3 rfl) ?_
        refine lv_iload_n hx hb d_Mo_take_22 rfl (lv_at hl 0 rfl) ?_
        refine z_iadd (x := nI (x9 * 41)) (y := nI t) (v := nI (x9 * 41 + t)) hx hb d_Mo_take_23 (nI_add (x9 * 41) t) ?_
        refine r_lald C K S 1 rfl (i := nI (x9 * 41 + t)) (show vp_in (nI (x9 * 41 + t)) _ from vp_in_nI (n := (x9 * 41 + t)) (by omega) (by decide)) (v := L (x9 * 41 + t)) (by rw [nI_clamp (by omega)]) d_Mo_take_24 ?_
        refine lv_lsub hx hb d_Mo_take_25 ?_
        refine r_last C K S 2 rfl (i := nI (c9 * 41 + t)) (x := ((lnT sm L (x9 * 41) (c9 * 41) t) (c9 * 41 + t)) - (L (x9 * 41 + t))) (show vp_in (nI (c9 * 41 + t)) _ from vp_in_nI (n := (c9 * 41 + t)) (by omega) (by decide)) (f' := va_up (lnT sm L (x9 * 41) (c9 * 41) t) (c9 * 41 + t) (((lnT sm L (x9 * 41) (c9 * 41) t) (c9 * 41 + t)) - (L (x9 * 41 + t)))) (ws' := [(h0, .inr (8, moL ma iv co)), ((ma 13), .inl (k 1, 36982, .inr (.inl L))), ((ma 15), .inl (k 1, 3690, .inr (.inl (va_up (lnT sm L (x9 * 41) (c9 * 41) t) (c9 * 41 + t) (((lnT sm L (x9 * 41) (c9 * 41) t) (c9 * 41 + t)) - (L (x9 * 41 + t)))))))]) (show vp_updL _ (nI (c9 * 41 + t) : Int32).toNatClampNeg _ = _ from vp_updL_eq (lnT sm L (x9 * 41) (c9 * 41) t) (j := (c9 * 41 + t)) (by omega) (((lnT sm L (x9 * 41) (c9 * 41) t) (c9 * 41 + t)) - (L (x9 * 41 + t)))) rfl d_Mo_take_26 (fun H locs S => ?_)
        have S : Sw G A s.heap H locs [(h0, .inr (8, moL ma iv co)), ((ma 13), .inl (k 1, 36982, .inr (.inl L))), ((ma 15), .inl (k 1, 3690, .inr (.inl (lnT sm L (x9 * 41) (c9 * 41) (t + 1)))))] := by rw [lnT_own, lnT_s] at S; exact S
        refine lv_iinc (v := nI (t + 1)) (lv' := [(3, .int (nI (t + 1))), (0, .ref h0), (1, .int (nI (c9 * 41))), (2, .int (nI (x9 * 41)))]) hx hb d_Mo_take_27 hl (k := 0) rfl (show nI t + Int32.ofInt 1 = nI (t + 1) from (nI_add t 1).trans (congrArg nI (by omega))) (by decide) rfl (fun ls hl => ?_)
        refine lv_goto (tgt := 2) hx hb d_Mo_take_30 (by decide) ?_
        exact ih_lp (t + 1) (by omega) (by omega) _ _ (S.sub [0, 1, 2] (by decide) rfl) ls (lv_sub hl [0, 1, 2, 3] rfl)
  exact lp _ 0 (Nat.lt_succ_self _) (by omega) _ _ (S.sub [0, 1, 2] (by decide) rfl) ls (lv_sub hl [0, 1, 2, 3] rfl)
theorem d_Mo_atLeast_0 : decode c_Mo_atLeast 0 = .ok (.aload_n 0, 1) := by decide +kernel
theorem d_Mo_atLeast_1 : decode c_Mo_atLeast 1 = .ok (.invokevirtual 201, 3) := by decide +kernel
theorem d_Mo_atLeast_4 : decode c_Mo_atLeast 4 = .ok (.istore_n 3, 1) := by decide +kernel
theorem d_Mo_atLeast_5 : decode c_Mo_atLeast 5 = .ok (.aload_n 0, 1) := by decide +kernel
theorem d_Mo_atLeast_6 : decode c_Mo_atLeast 6 = .ok (.getfield 64, 3) := by decide +kernel
theorem d_Mo_atLeast_9 : decode c_Mo_atLeast 9 = .ok (.iload_n 3, 1) := by decide +kernel
theorem d_Mo_atLeast_10 : decode c_Mo_atLeast 10 = .ok (.iload_n 1, 1) := by decide +kernel
theorem d_Mo_atLeast_11 : decode c_Mo_atLeast 11 = .ok (.iadd, 1) := by decide +kernel
theorem d_Mo_atLeast_12 : decode c_Mo_atLeast 12 = .ok (.dup2, 1) := by decide +kernel
theorem d_Mo_atLeast_13 : decode c_Mo_atLeast 13 = .ok (.laload, 1) := by decide +kernel
theorem d_Mo_atLeast_14 : decode c_Mo_atLeast 14 = .ok (.lconst 1, 1) := by decide +kernel
theorem d_Mo_atLeast_15 : decode c_Mo_atLeast 15 = .ok (.ladd, 1) := by decide +kernel
theorem d_Mo_atLeast_16 : decode c_Mo_atLeast 16 = .ok (.lastore, 1) := by decide +kernel
theorem d_Mo_atLeast_17 : decode c_Mo_atLeast 17 = .ok (.aload_n 0, 1) := by decide +kernel
theorem d_Mo_atLeast_18 : decode c_Mo_atLeast 18 = .ok (.iload_n 3, 1) := by decide +kernel
theorem d_Mo_atLeast_19 : decode c_Mo_atLeast 19 = .ok (.iload_n 2, 1) := by decide +kernel
theorem d_Mo_atLeast_20 : decode c_Mo_atLeast 20 = .ok (.invokevirtual 205, 3) := by decide +kernel
theorem d_Mo_atLeast_23 : decode c_Mo_atLeast 23 = .ok (.return_, 1) := by decide +kernel
set_option maxRecDepth 100000 in
set_option maxHeartbeats 16000000 in
/-- atLeast(u9, x9) -/
theorem g_Mo_atLeast (l : Launch) (G : va_G) (k : Nat → ClassId) (h0 : Nat) (s0 : Nat) (u9 : Nat) (x9 : Nat) (co9 : Nat) (fl : Nat) (ma : Nat → Nat) (iv : Nat → Int32) (co : Int64) (L : Nat → Int64) (sm : Nat → Int64) (hu9 : u9 < 41) (hx9 : x9 < 902) (hco : co9 ≤ 10000) (hfl : fl ≤ 1) : CV l y_Mo_atLeast c_Mo_atLeast 4 { frames := 1, cells := 0, slots := 0, locals := 23 } [.ref h0, .int (nI u9), .int (nI (x9 * 41))] G k s0 [(h0, .inr (8, moL ma (va_up (va_up iv 15 (nI co9)) 16 (nI fl)) co)), ((ma 13), .inl (k 1, 36982, .inr (.inl L))), ((ma 15), .inl (k 1, 3690, .inr (.inl sm)))] (fun (u : Nat → Int64) => (∀ x, x ≠ cxN co9 → lz u x = lz sm x) ∧ lz u (cxN co9) ≤ 1 + lz L x9) (fun u => [(h0, .inr (8, moL ma (va_up (va_up iv 15 (nI (co9 + 1))) 16 (nI (fcN co9 fl))) co)), ((ma 13), .inl (k 1, 36982, .inr (.inl L))), ((ma 15), .inl (k 1, 3690, .inr (.inl u)))]) 0 0 := by
  refine met_start (by decide) (Nat.le_of_ble_eq_true rfl) ?_
  intro p e s m below meth c C K hA hsz S ls hl
  generalize va_A [(h0, .inr (8, moL ma (va_up (va_up iv 15 (nI co9)) 16 (nI fl)) co)), ((ma 13), .inl (k 1, 36982, .inr (.inl L))), ((ma 15), .inl (k 1, 3690, .inr (.inl sm)))] s0 = A at hA S ⊢
  have hx := C.1
  have hb := C.2.1
  have hl : lv_has ls 4 [(0, .ref h0), (1, .int (nI u9)), (2, .int (nI (x9 * 41)))] := hl
  have hcx := cxN_lt co9
  refine lv_aload_n hx hb d_Mo_atLeast_0 rfl (lv_at hl 0 rfl) ?_
  refine r_backi (wi := [(h0, .inr (8, moL ma (va_up (va_up iv 15 (nI co9)) 16 (nI fl)) co)), ((ma 15), .inl (k 1, 3690, .inr (.inl sm)))]) (wr := [((ma 13), .inl (k 1, 36982, .inr (.inl L)))]) S hA [0, 2] [1] rfl rfl (by decide) (by decide) (va_runV (As := []) (rest := []) ⟨hx, hb, C.2.2.1, C.2.2.2.1, C.2.2.2.2.1⟩ (g_Mo_newCondition l G k h0 _ co9 fl ma iv co sm (by first | assumption | omega) (by first | assumption | omega)) (k_virt (n := 0) C wc_Mo_newCondition rfl rfl wz_Mo wm_Mo_201 wn_Mo_newCondition ws_Mo_newCondition (by decide +kernel) ⟨(Nat.le_of_ble_eq_true rfl), (Nat.le_of_ble_eq_true rfl)⟩) (pr_nowV K S [0, 2] (by decide) rfl 0 rfl rfl) rfl rfl hl.1 rfl (lv_room (Nat.le_of_ble_eq_true rfl)) d_Mo_atLeast_1 ⟨(Nat.le_of_ble_eq_true rfl), (Nat.le_of_ble_eq_true rfl)⟩) (fun r3 u1 H locs hw2 S => ?_)
  have S : Sw G A s.heap _ _ [((ma 13), .inl (k 1, 36982, .inr (.inl L))), (h0, .inr (8, moL ma (va_up (va_up iv 15 (nI (co9 + 1))) 16 (nI (fcN co9 fl))) co)), ((ma 15), .inl (k 1, 3690, .inr (.inl (lnC sm (cxN co9 * 41) 41))))] := S
  obtain ⟨hw20, hp4⟩ := hw2
  obtain rfl : r3 = nI (cxN co9 * 41) := hw20
  refine lv_istore_n (lv' := [(3, .int (nI (cxN co9 * 41))), (0, .ref h0), (1, .int (nI u9)), (2, .int (nI (x9 * 41)))]) hx hb d_Mo_atLeast_4 rfl hl (by decide) rfl (fun ls hl => ?_)
  refine lv_aload_n hx hb d_Mo_atLeast_5 rfl (lv_at hl 1 rfl) ?_
  refine r_get C K S 1 rfl rfl clOk_Mo 33 (by decide) wf_Mo_64 (v := .ref (ma 15)) rfl d_Mo_atLeast_6 ?_
  refine lv_iload_n hx hb d_Mo_atLeast_9 rfl (lv_at hl 0 rfl) ?_
  refine lv_iload_n hx hb d_Mo_atLeast_10 rfl (lv_at hl 2 rfl) ?_
  refine z_iadd (x := nI (cxN co9 * 41)) (y := nI u9) (v := nI (cxN co9 * 41 + u9)) hx hb d_Mo_atLeast_11 (nI_add (cxN co9 * 41) u9) ?_
  refine lv_dup2_11 hx hb d_Mo_atLeast_12 rfl rfl ?_
  refine r_lald C K S 2 rfl (i := nI (cxN co9 * 41 + u9)) (show vp_in (nI (cxN co9 * 41 + u9)) _ from vp_in_nI (n := (cxN co9 * 41 + u9)) (by omega) (by decide)) (v := (lnC sm (cxN co9 * 41) 41) (cxN co9 * 41 + u9)) (by rw [nI_clamp (by omega)]) d_Mo_atLeast_13 ?_
  refine lv_lconst (v := 1) hx hb d_Mo_atLeast_14 (by decide) ?_
  refine lv_ladd hx hb d_Mo_atLeast_15 ?_
  refine r_last C K S 2 rfl (i := nI (cxN co9 * 41 + u9)) (x := ((lnC sm (cxN co9 * 41) 41) (cxN co9 * 41 + u9)) + 1) (show vp_in (nI (cxN co9 * 41 + u9)) _ from vp_in_nI (n := (cxN co9 * 41 + u9)) (by omega) (by decide)) (f' := va_up (lnC sm (cxN co9 * 41) 41) (cxN co9 * 41 + u9) (((lnC sm (cxN co9 * 41) 41) (cxN co9 * 41 + u9)) + 1)) (ws' := [((ma 13), .inl (k 1, 36982, .inr (.inl L))), (h0, .inr (8, moL ma (va_up (va_up iv 15 (nI (co9 + 1))) 16 (nI (fcN co9 fl))) co)), ((ma 15), .inl (k 1, 3690, .inr (.inl (va_up (lnC sm (cxN co9 * 41) 41) (cxN co9 * 41 + u9) (((lnC sm (cxN co9 * 41) 41) (cxN co9 * 41 + u9)) + 1)))))]) (show vp_updL _ (nI (cxN co9 * 41 + u9) : Int32).toNatClampNeg _ = _ from vp_updL_eq (lnC sm (cxN co9 * 41) 41) (j := (cxN co9 * 41 + u9)) (by omega) (((lnC sm (cxN co9 * 41) 41) (cxN co9 * 41 + u9)) + 1)) rfl d_Mo_atLeast_16 (fun H locs S => ?_)
  refine lv_aload_n hx hb d_Mo_atLeast_17 rfl (lv_at hl 1 rfl) ?_
  refine lv_iload_n hx hb d_Mo_atLeast_18 rfl (lv_at hl 0 rfl) ?_
  refine lv_iload_n hx hb d_Mo_atLeast_19 rfl (lv_at hl 3 rfl) ?_
  refine r_backv (wi := [(h0, .inr (8, moL ma (va_up (va_up iv 15 (nI (co9 + 1))) 16 (nI (fcN co9 fl))) co)), ((ma 13), .inl (k 1, 36982, .inr (.inl L))), ((ma 15), .inl (k 1, 3690, .inr (.inl (va_up (lnC sm (cxN co9 * 41) 41) (cxN co9 * 41 + u9) (((lnC sm (cxN co9 * 41) 41) (cxN co9 * 41 + u9)) + 1)))))]) (wr := []) S hA [1, 0, 2] [] rfl rfl (by decide) (by decide) (va_runV (As := [.int (nI (cxN co9 * 41)), .int (nI (x9 * 41))]) (rest := []) ⟨hx, hb, C.2.2.1, C.2.2.2.1, C.2.2.2.2.1⟩ (g_Mo_take l G k h0 _ (cxN co9) x9 ma (va_up (va_up iv 15 (nI (co9 + 1))) 16 (nI (fcN co9 fl))) co L (va_up (lnC sm (cxN co9 * 41) 41) (cxN co9 * 41 + u9) (((lnC sm (cxN co9 * 41) 41) (cxN co9 * 41 + u9)) + 1)) hcx hx9) (k_virt (n := 2) C wc_Mo_take rfl rfl wz_Mo wm_Mo_205 wn_Mo_take ws_Mo_take (by decide +kernel) ⟨(Nat.le_of_ble_eq_true rfl), (Nat.le_of_ble_eq_true rfl)⟩) (pr_nowV K S [1, 0, 2] (by decide) rfl 1 rfl rfl) rfl rfl hl.1 rfl (lv_room (Nat.le_of_ble_eq_true rfl)) d_Mo_atLeast_20 ⟨(Nat.le_of_ble_eq_true rfl), (Nat.le_of_ble_eq_true rfl)⟩) (fun u5 H locs hw6 S => ?_)
  have S : Sw G A s.heap _ _ [(h0, .inr (8, moL ma (va_up (va_up iv 15 (nI (co9 + 1))) 16 (nI (fcN co9 fl))) co)), ((ma 13), .inl (k 1, 36982, .inr (.inl L))), ((ma 15), .inl (k 1, 3690, .inr (.inl (lnT (va_up (lnC sm (cxN co9 * 41) 41) (cxN co9 * 41 + u9) (((lnC sm (cxN co9 * 41) 41) (cxN co9 * 41 + u9)) + 1)) L (x9 * 41) ((cxN co9) * 41) 41))))] := S
  exact r_vret C K (lnT (va_up (lnC sm (cxN co9 * 41) 41) (cxN co9 * 41 + u9) (((lnC sm (cxN co9 * 41) 41) (cxN co9 * 41 + u9)) + 1)) L (x9 * 41) (cxN co9 * 41) 41) ⟨fun x hx => by rw [lz_T_ne hx, lz_up_ne hu9 hx, lz_C_ne hx], Nat.le_trans lz_T (Nat.add_le_add_right (Nat.le_trans (lz_inc (l1_inc _)) (by rw [lz_C]; exact Nat.le_refl _)) _)⟩ (S.sub [0, 1, 2] (by decide) rfl) d_Mo_atLeast_23 (Nat.le_of_ble_eq_true rfl) (Nat.le_of_ble_eq_true rfl)
end
section
theorem d_Mo_newBlock_0 : decode c_Mo_newBlock 0 = .ok (.aload_n 0, 1) := by decide +kernel
theorem d_Mo_newBlock_1 : decode c_Mo_newBlock 1 = .ok (.getfield 208, 3) := by decide +kernel
theorem d_Mo_newBlock_4 : decode c_Mo_newBlock 4 = .ok (.istore_n 3, 1) := by decide +kernel
theorem d_Mo_newBlock_5 : decode c_Mo_newBlock 5 = .ok (.aload_n 0, 1) := by decide +kernel
theorem d_Mo_newBlock_6 : decode c_Mo_newBlock 6 = .ok (.dup, 1) := by decide +kernel
theorem d_Mo_newBlock_7 : decode c_Mo_newBlock 7 = .ok (.getfield 208, 3) := by decide +kernel
theorem d_Mo_newBlock_10 : decode c_Mo_newBlock 10 = .ok (.iconst 1, 1) := by decide +kernel
theorem d_Mo_newBlock_11 : decode c_Mo_newBlock 11 = .ok (.iadd, 1) := by decide +kernel
theorem d_Mo_newBlock_12 : decode c_Mo_newBlock 12 = .ok (.putfield 208, 3) := by decide +kernel
theorem d_Mo_newBlock_15 : decode c_Mo_newBlock 15 = .ok (.iconst 0, 1) := by decide +kernel
theorem d_Mo_newBlock_16 : decode c_Mo_newBlock 16 = .ok (.istore 4, 2) := by decide +kernel
theorem d_Mo_newBlock_18 : decode c_Mo_newBlock 18 = .ok (.iload 4, 2) := by decide +kernel
theorem d_Mo_newBlock_20 : decode c_Mo_newBlock 20 = .ok (.bipush 20, 2) := by decide +kernel
theorem d_Mo_newBlock_22 : decode c_Mo_newBlock 22 = .ok (.if_icmp .ge 19, 3) := by decide +kernel
theorem d_Mo_newBlock_25 : decode c_Mo_newBlock 25 = .ok (.aload_n 0, 1) := by decide +kernel
theorem d_Mo_newBlock_26 : decode c_Mo_newBlock 26 = .ok (.iload_n 3, 1) := by decide +kernel
theorem d_Mo_newBlock_27 : decode c_Mo_newBlock 27 = .ok (.iload 4, 2) := by decide +kernel
theorem d_Mo_newBlock_29 : decode c_Mo_newBlock 29 = .ok (.invokestatic 211, 3) := by decide +kernel
theorem d_Mo_newBlock_32 : decode c_Mo_newBlock 32 = .ok (.invokevirtual 214, 3) := by decide +kernel
theorem d_Mo_newBlock_35 : decode c_Mo_newBlock 35 = .ok (.iinc 4 1, 3) := by decide +kernel
theorem d_Mo_newBlock_38 : decode c_Mo_newBlock 38 = .ok (.goto (-20), 3) := by decide +kernel
theorem d_Mo_newBlock_41 : decode c_Mo_newBlock 41 = .ok (.aload_n 0, 1) := by decide +kernel
theorem d_Mo_newBlock_42 : decode c_Mo_newBlock 42 = .ok (.iload_n 1, 1) := by decide +kernel
theorem d_Mo_newBlock_43 : decode c_Mo_newBlock 43 = .ok (.iload_n 3, 1) := by decide +kernel
theorem d_Mo_newBlock_44 : decode c_Mo_newBlock 44 = .ok (.bipush 20, 2) := by decide +kernel
theorem d_Mo_newBlock_46 : decode c_Mo_newBlock 46 = .ok (.invokestatic 211, 3) := by decide +kernel
theorem d_Mo_newBlock_49 : decode c_Mo_newBlock 49 = .ok (.invokevirtual 218, 3) := by decide +kernel
theorem d_Mo_newBlock_52 : decode c_Mo_newBlock 52 = .ok (.aload_n 0, 1) := by decide +kernel
theorem d_Mo_newBlock_53 : decode c_Mo_newBlock 53 = .ok (.iload_n 2, 1) := by decide +kernel
theorem d_Mo_newBlock_54 : decode c_Mo_newBlock 54 = .ok (.iload_n 3, 1) := by decide +kernel
theorem d_Mo_newBlock_55 : decode c_Mo_newBlock 55 = .ok (.bipush 21, 2) := by decide +kernel
theorem d_Mo_newBlock_57 : decode c_Mo_newBlock 57 = .ok (.invokestatic 211, 3) := by decide +kernel
theorem d_Mo_newBlock_60 : decode c_Mo_newBlock 60 = .ok (.invokevirtual 218, 3) := by decide +kernel
theorem d_Mo_newBlock_63 : decode c_Mo_newBlock 63 = .ok (.iload_n 3, 1) := by decide +kernel
theorem d_Mo_newBlock_64 : decode c_Mo_newBlock 64 = .ok (.ireturn, 1) := by decide +kernel
set_option maxRecDepth 100000 in
set_option maxHeartbeats 16000000 in
/-- newBlock(g9, e9) -/
theorem g_Mo_newBlock (l : Launch) (G : va_G) (k : Nat → ClassId) (h0 : Nat) (s0 : Nat) (g9 : Nat) (e9 : Nat) (b9 : Nat) (ma : Nat → Nat) (iv : Nat → Int32) (co : Int64) (L : Nat → Int64) (hbk : b9 < 40) (hg : g9 < 22 * b9 ∨ (880 ≤ g9 ∧ g9 < 902)) (hd : e9 < 22 * b9 ∨ (880 ≤ e9 ∧ e9 < 902)) : CI l y_Mo_newBlock c_Mo_newBlock 5 .int { frames := 1, cells := 0, slots := 0, locals := 23 } [.ref h0, .int (nI (g9 * 41)), .int (nI (e9 * 41))] G k s0 [(h0, .inr (8, moL ma (va_up iv 13 (nI b9)) co)), ((ma 13), .inl (k 1, 36982, .inr (.inl L)))] (fun (r : Int32) (u : Nat → Int64) => r = nI b9 ∧ (∀ k9, k9 < 20 → lz u (22 * b9 + k9) = 0) ∧ lz u (22 * b9 + 20) = lz L g9 ∧ lz u (22 * b9 + 21) = lz L e9 ∧ ∀ x, x < 22 * b9 ∨ 22 * b9 + 22 ≤ x → lz u x = lz L x) (fun u => [(h0, .inr (8, moL ma (va_up iv 13 (nI (b9 + 1))) co)), ((ma 13), .inl (k 1, 36982, .inr (.inl u)))]) 0 0 := by
  refine met_start (by decide) (Nat.le_of_ble_eq_true rfl) ?_
  intro p e s m below meth c C K hA hsz S ls hl
  generalize va_A [(h0, .inr (8, moL ma (va_up iv 13 (nI b9)) co)), ((ma 13), .inl (k 1, 36982, .inr (.inl L)))] s0 = A at hA S ⊢
  have hx := C.1
  have hb := C.2.1
  have hl : lv_has ls 5 [(0, .ref h0), (1, .int (nI (g9 * 41))), (2, .int (nI (e9 * 41)))] := hl
  refine lv_aload_n hx hb d_Mo_newBlock_0 rfl (lv_at hl 0 rfl) ?_
  refine r_get C K S 0 rfl rfl clOk_Mo 28 (by decide) wf_Mo_208 (v := .int (nI b9)) rfl d_Mo_newBlock_1 ?_
  refine lv_istore_n (lv' := [(3, .int (nI b9)), (0, .ref h0), (1, .int (nI (g9 * 41))), (2, .int (nI (e9 * 41)))]) hx hb d_Mo_newBlock_4 rfl hl (by decide) rfl (fun ls hl => ?_)
  refine lv_aload_n hx hb d_Mo_newBlock_5 rfl (lv_at hl 1 rfl) ?_
  refine lv_dup hx hb d_Mo_newBlock_6 rfl ?_
  refine r_get C K S 0 rfl rfl clOk_Mo 28 (by decide) wf_Mo_208 (v := .int (nI b9)) rfl d_Mo_newBlock_7 ?_
  refine lv_iconst (v := 1) hx hb d_Mo_newBlock_10 (by decide) ?_
  refine z_iadd (x := nI b9) (y := 1) (v := nI (b9 + 1)) hx hb d_Mo_newBlock_11 (nI_add b9 1) ?_
  refine r_put C K S 0 rfl rfl clOk_Mo 28 (by decide) wf_Mo_208 rfl (ty := .int) (v := .int (nI (b9 + 1))) (by decide +kernel) rfl rfl (Nat.le_of_ble_eq_true rfl) (fs' := moL ma (va_up iv 13 (nI (b9 + 1))) co) (ws' := [(h0, .inr (8, moL ma (va_up iv 13 (nI (b9 + 1))) co)), ((ma 13), .inl (k 1, 36982, .inr (.inl L)))]) rfl rfl d_Mo_newBlock_12 (fun H locs S => ?_)
  refine lv_iconst (v := 0) hx hb d_Mo_newBlock_15 (by decide) ?_
  refine lv_istore (lv' := [(4, .int 0), (3, .int (nI b9)), (0, .ref h0), (1, .int (nI (g9 * 41))), (2, .int (nI (e9 * 41)))]) hx hb d_Mo_newBlock_16 hl (by decide) rfl (fun ls hl => ?_)
  have lp : ∀ d9, ∀ (t : Nat), ∀ (L9 : Nat → Int64), (20 - t) < d9 → (t ≤ 20) → (∀ k9, k9 < t → lz L9 (22 * b9 + k9) = 0) → (∀ x, x < 22 * b9 ∨ 22 * b9 + 20 ≤ x → lz L9 x = lz L x) → ∀ (H : Heap) (locs : List Loc), Sw G A s.heap H locs [(h0, .inr (8, moL ma (va_up iv 13 (nI (b9 + 1))) co)), ((ma 13), .inl (k 1, 36982, .inr (.inl L9)))] → ∀ ls : Array Slot, lv_has ls 5 [(4, .int (nI t)), (3, .int (nI b9)), (0, .ref h0), (1, .int (nI (g9 * 41))), (2, .int (nI (e9 * 41)))] → W p l e { frames := 1, cells := 0, slots := 0, locals := 23 } s m [Value.ref h0, Value.int (nI (g9 * 41)), Value.int (nI (e9 * 41))].toArray below meth c H locs 0 0 (MQ below (va_Qi (fun (r : Int32) (u : Nat → Int64) => r = nI b9 ∧ (∀ k9, k9 < 20 → lz u (22 * b9 + k9) = 0) ∧ lz u (22 * b9 + 20) = lz L g9 ∧ lz u (22 * b9 + 21) = lz L e9 ∧ ∀ x, x < 22 * b9 ∨ 22 * b9 + 22 ≤ x → lz u x = lz L x) (Po G k A (fun u => [(h0, .inr (8, moL ma (va_up iv 13 (nI (b9 + 1))) co)), ((ma 13), .inl (k 1, 36982, .inr (.inl u)))])) A) [Value.ref h0, Value.int (nI (g9 * 41)), Value.int (nI (e9 * 41))].toArray s 0 0 A) (F0 m 18 ls []) := by
    intro d9
    induction d9 with
    | zero => intro t L9 hm; exact absurd hm (Nat.not_lt_zero _)
    | succ d9 ih_lp =>
      intro t L9 hm ht hz ho H locs S ls hl
      refine lv_iload hx hb d_Mo_newBlock_18 (lv_at hl 0 rfl) ?_
      refine lv_bipush (v := 20) hx hb d_Mo_newBlock_20 (by decide) ?_
      refine z_icmp_ge (a := t) (b := 20) (tgt := 41) hx hb d_Mo_newBlock_22 (by decide) (by omega) (by omega) (fun hc1 => ?_) (fun hc1 => ?_)
      · refine lv_aload_n hx hb d_Mo_newBlock_41 rfl (lv_at hl 2 rfl) ?_
        refine lv_iload_n hx hb d_Mo_newBlock_42 rfl (lv_at hl 3 rfl) ?_
        refine lv_iload_n hx hb d_Mo_newBlock_43 rfl (lv_at hl 1 rfl) ?_
        refine lv_bipush (v := 20) hx hb d_Mo_newBlock_44 (by decide) ?_
        refine r_backi (wi := []) (wr := [(h0, .inr (8, moL ma (va_up iv 13 (nI (b9 + 1))) co)), ((ma 13), .inl (k 1, 36982, .inr (.inl L9)))]) S hA [] [0, 1] rfl rfl (by decide) (by decide) (va_runS (As := [.int (nI b9), .int 20]) (rest := [.int (nI (g9 * 41)), .ref h0]) ⟨hx, hb, C.2.2.1, C.2.2.2.1, C.2.2.2.2.1⟩ (g_Mo_line l G k _ b9 20) (k_stat (n := 2) C wc_Mo_line rfl rfl wz_Mo wm_Mo_211 wt_Mo_line (by decide +kernel) ⟨(Nat.le_of_ble_eq_true rfl), (Nat.le_of_ble_eq_true rfl)⟩) (pr_now K S [] (by decide) rfl) rfl rfl hl.1 rfl (lv_room (Nat.le_of_ble_eq_true rfl)) d_Mo_newBlock_46 ⟨(Nat.le_of_ble_eq_true rfl), (Nat.le_of_ble_eq_true rfl)⟩) (fun r4 u2 H locs hw3 S => ?_)
        have S : Sw G A s.heap _ _ [(h0, .inr (8, moL ma (va_up iv 13 (nI (b9 + 1))) co)), ((ma 13), .inl (k 1, 36982, .inr (.inl L9)))] := S
        obtain rfl : r4 = nI ((22 * b9 + 20) * 41) := hw3
        refine r_backv (wi := [(h0, .inr (8, moL ma (va_up iv 13 (nI (b9 + 1))) co)), ((ma 13), .inl (k 1, 36982, .inr (.inl L9)))]) (wr := []) S hA [0, 1] [] rfl rfl (by decide) (by decide) (va_runV (As := [.int (nI (g9 * 41)), .int (nI ((22 * b9 + 20) * 41))]) (rest := []) ⟨hx, hb, C.2.2.1, C.2.2.2.1, C.2.2.2.2.1⟩ (g_Mo_copy l G k h0 _ ma (va_up iv 13 (nI (b9 + 1))) co L9 (g9 * 41) ((22 * b9 + 20) * 41) (by omega) (by omega) (by omega)) (k_virt (n := 2) C wc_Mo_copy rfl rfl wz_Mo wm_Mo_218 wn_Mo_copy ws_Mo_copy (by decide +kernel) ⟨(Nat.le_of_ble_eq_true rfl), (Nat.le_of_ble_eq_true rfl)⟩) (pr_nowV K S [0, 1] (by decide) rfl 0 rfl rfl) rfl rfl hl.1 rfl (lv_room (Nat.le_of_ble_eq_true rfl)) d_Mo_newBlock_49 ⟨(Nat.le_of_ble_eq_true rfl), (Nat.le_of_ble_eq_true rfl)⟩) (fun u6 H locs hw7 S => ?_)
        have S : Sw G A s.heap _ _ [(h0, .inr (8, moL ma (va_up iv 13 (nI (b9 + 1))) co)), ((ma 13), .inl (k 1, 36982, .inr (.inl (lnP L9 (g9 * 41) ((22 * b9 + 20) * 41) 41))))] := S
        refine lv_aload_n hx hb d_Mo_newBlock_52 rfl (lv_at hl 2 rfl) ?_
        refine lv_iload_n hx hb d_Mo_newBlock_53 rfl (lv_at hl 4 rfl) ?_
        refine lv_iload_n hx hb d_Mo_newBlock_54 rfl (lv_at hl 1 rfl) ?_
        refine lv_bipush (v := 21) hx hb d_Mo_newBlock_55 (by decide) ?_
        refine r_backi (wi := []) (wr := [(h0, .inr (8, moL ma (va_up iv 13 (nI (b9 + 1))) co)), ((ma 13), .inl (k 1, 36982, .inr (.inl (lnP L9 (g9 * 41) ((22 * b9 + 20) * 41) 41))))]) S hA [] [0, 1] rfl rfl (by decide) (by decide) (va_runS (As := [.int (nI b9), .int 21]) (rest := [.int (nI (e9 * 41)), .ref h0]) ⟨hx, hb, C.2.2.1, C.2.2.2.1, C.2.2.2.2.1⟩ (g_Mo_line l G k _ b9 21) (k_stat (n := 2) C wc_Mo_line rfl rfl wz_Mo wm_Mo_211 wt_Mo_line (by decide +kernel) ⟨(Nat.le_of_ble_eq_true rfl), (Nat.le_of_ble_eq_true rfl)⟩) (pr_now K S [] (by decide) rfl) rfl rfl hl.1 rfl (lv_room (Nat.le_of_ble_eq_true rfl)) d_Mo_newBlock_57 ⟨(Nat.le_of_ble_eq_true rfl), (Nat.le_of_ble_eq_true rfl)⟩) (fun r10 u8 H locs hw9 S => ?_)
        have S : Sw G A s.heap _ _ [(h0, .inr (8, moL ma (va_up iv 13 (nI (b9 + 1))) co)), ((ma 13), .inl (k 1, 36982, .inr (.inl (lnP L9 (g9 * 41) ((22 * b9 + 20) * 41) 41))))] := S
        obtain rfl : r10 = nI ((22 * b9 + 21) * 41) := hw9
        refine r_backv (wi := [(h0, .inr (8, moL ma (va_up iv 13 (nI (b9 + 1))) co)), ((ma 13), .inl (k 1, 36982, .inr (.inl (lnP L9 (g9 * 41) ((22 * b9 + 20) * 41) 41))))]) (wr := []) S hA [0, 1] [] rfl rfl (by decide) (by decide) (va_runV (As := [.int (nI (e9 * 41)), .int (nI ((22 * b9 + 21) * 41))]) (rest := []) ⟨hx, hb, C.2.2.1, C.2.2.2.1, C.2.2.2.2.1⟩ (g_Mo_copy l G k h0 _ ma (va_up iv 13 (nI (b9 + 1))) co (lnP L9 (g9 * 41) ((22 * b9 + 20) * 41) 41) (e9 * 41) ((22 * b9 + 21) * 41) (by omega) (by omega) (by omega)) (k_virt (n := 2) C wc_Mo_copy rfl rfl wz_Mo wm_Mo_218 wn_Mo_copy ws_Mo_copy (by decide +kernel) ⟨(Nat.le_of_ble_eq_true rfl), (Nat.le_of_ble_eq_true rfl)⟩) (pr_nowV K S [0, 1] (by decide) rfl 0 rfl rfl) rfl rfl hl.1 rfl (lv_room (Nat.le_of_ble_eq_true rfl)) d_Mo_newBlock_60 ⟨(Nat.le_of_ble_eq_true rfl), (Nat.le_of_ble_eq_true rfl)⟩) (fun u12 H locs hw13 S => ?_)
        have S : Sw G A s.heap _ _ [(h0, .inr (8, moL ma (va_up iv 13 (nI (b9 + 1))) co)), ((ma 13), .inl (k 1, 36982, .inr (.inl (lnP (lnP L9 (g9 * 41) ((22 * b9 + 20) * 41) 41) (e9 * 41) ((22 * b9 + 21) * 41) 41))))] := S
        refine lv_iload_n hx hb d_Mo_newBlock_63 rfl (lv_at hl 1 rfl) ?_
        exact r_iret C K rfl (lnP (lnP L9 (g9 * 41) ((22 * b9 + 20) * 41) 41) (e9 * 41) ((22 * b9 + 21) * 41) 41) ⟨rfl, fun k9 hk => by rw [lz_P_ne (by omega), lz_P_ne (by omega)]; exact hz k9 (by omega), by rw [lz_P_ne (by omega), lz_P]; exact ho g9 (by omega), by rw [lz_P, lz_P_ne (by omega)]; exact ho e9 (by omega), fun x hx => by rw [lz_P_ne (by omega), lz_P_ne (by omega)]; exact ho x (by omega)⟩ (S.sub [0, 1] (by decide) rfl) d_Mo_newBlock_64 (Nat.le_of_ble_eq_true rfl) (Nat.le_of_ble_eq_true rfl)
      · refine lv_aload_n hx hb d_Mo_newBlock_25 rfl (lv_at hl 2 rfl) ?_
        refine lv_iload_n hx hb d_Mo_newBlock_26 rfl (lv_at hl 1 rfl) ?_
        refine lv_iload hx hb d_Mo_newBlock_27 (lv_at hl 0 rfl) ?_
        refine r_backi (wi := []) (wr := [(h0, .inr (8, moL ma (va_up iv 13 (nI (b9 + 1))) co)), ((ma 13), .inl (k 1, 36982, .inr (.inl L9)))]) S hA [] [0, 1] rfl rfl (by decide) (by decide) (va_runS (As := [.int (nI b9), .int (nI t)]) (rest := [.ref h0]) ⟨hx, hb, C.2.2.1, C.2.2.2.1, C.2.2.2.2.1⟩ (g_Mo_line l G k _ b9 t) (k_stat (n := 2) C wc_Mo_line rfl rfl wz_Mo wm_Mo_211 wt_Mo_line (by decide +kernel) ⟨(Nat.le_of_ble_eq_true rfl), (Nat.le_of_ble_eq_true rfl)⟩) (pr_now K S [] (by decide) rfl) rfl rfl hl.1 rfl (lv_room (Nat.le_of_ble_eq_true rfl)) d_Mo_newBlock_29 ⟨(Nat.le_of_ble_eq_true rfl), (Nat.le_of_ble_eq_true rfl)⟩) (fun r16 u14 H locs hw15 S => ?_)
        have S : Sw G A s.heap _ _ [(h0, .inr (8, moL ma (va_up iv 13 (nI (b9 + 1))) co)), ((ma 13), .inl (k 1, 36982, .inr (.inl L9)))] := S
        obtain rfl : r16 = nI ((22 * b9 + t) * 41) := hw15
        refine r_backv (wi := [(h0, .inr (8, moL ma (va_up iv 13 (nI (b9 + 1))) co)), ((ma 13), .inl (k 1, 36982, .inr (.inl L9)))]) (wr := []) S hA [0, 1] [] rfl rfl (by decide) (by decide) (va_runV (As := [.int (nI ((22 * b9 + t) * 41))]) (rest := []) ⟨hx, hb, C.2.2.1, C.2.2.2.1, C.2.2.2.2.1⟩ (g_Mo_clear l G k h0 _ ma (va_up iv 13 (nI (b9 + 1))) co L9 ((22 * b9 + t) * 41) (by omega)) (k_virt (n := 1) C wc_Mo_clear rfl rfl wz_Mo wm_Mo_214 wn_Mo_clear ws_Mo_clear (by decide +kernel) ⟨(Nat.le_of_ble_eq_true rfl), (Nat.le_of_ble_eq_true rfl)⟩) (pr_nowV K S [0, 1] (by decide) rfl 0 rfl rfl) rfl rfl hl.1 rfl (lv_room (Nat.le_of_ble_eq_true rfl)) d_Mo_newBlock_32 ⟨(Nat.le_of_ble_eq_true rfl), (Nat.le_of_ble_eq_true rfl)⟩) (fun u18 H locs hw19 S => ?_)
        have S : Sw G A s.heap _ _ [(h0, .inr (8, moL ma (va_up iv 13 (nI (b9 + 1))) co)), ((ma 13), .inl (k 1, 36982, .inr (.inl (lnC L9 ((22 * b9 + t) * 41) 41))))] := S
        refine lv_iinc (v := nI (t + 1)) (lv' := [(4, .int (nI (t + 1))), (3, .int (nI b9)), (0, .ref h0), (1, .int (nI (g9 * 41))), (2, .int (nI (e9 * 41)))]) hx hb d_Mo_newBlock_35 hl (k := 0) rfl (show nI t + Int32.ofInt 1 = nI (t + 1) from (nI_add t 1).trans (congrArg nI (by omega))) (by decide) rfl (fun ls hl => ?_)
        refine lv_goto (tgt := 18) hx hb d_Mo_newBlock_38 (by decide) ?_
        exact ih_lp (t + 1) (lnC L9 ((22 * b9 + t) * 41) 41) (by omega) (by omega) (fun k9 hk => (Nat.lt_or_eq_of_le (Nat.le_of_lt_succ hk)).elim (fun q => by rw [lz_C_ne (by omega)]; exact hz k9 q) (fun q => by rw [q, lz_C])) (fun x hx => by rw [lz_C_ne (by omega)]; exact ho x hx) _ _ (S.sub [0, 1] (by decide) rfl) ls (lv_sub hl [0, 1, 2, 3, 4] rfl)
  exact lp _ 0 L (Nat.lt_succ_self _) (by omega) (fun _ h => absurd h (Nat.not_lt_zero _)) (fun _ _ => rfl) _ _ (S.sub [0, 1] (by decide) rfl) ls (lv_sub hl [0, 1, 2, 3, 4] rfl)
theorem d_Mo_keepAll_0 : decode c_Mo_keepAll 0 = .ok (.iconst 0, 1) := by decide +kernel
theorem d_Mo_keepAll_1 : decode c_Mo_keepAll 1 = .ok (.istore_n 3, 1) := by decide +kernel
theorem d_Mo_keepAll_2 : decode c_Mo_keepAll 2 = .ok (.iload_n 3, 1) := by decide +kernel
theorem d_Mo_keepAll_3 : decode c_Mo_keepAll 3 = .ok (.bipush 19, 2) := by decide +kernel
theorem d_Mo_keepAll_5 : decode c_Mo_keepAll 5 = .ok (.if_icmp .gt 23, 3) := by decide +kernel
theorem d_Mo_keepAll_8 : decode c_Mo_keepAll 8 = .ok (.aload_n 0, 1) := by decide +kernel
theorem d_Mo_keepAll_9 : decode c_Mo_keepAll 9 = .ok (.iload_n 2, 1) := by decide +kernel
theorem d_Mo_keepAll_10 : decode c_Mo_keepAll 10 = .ok (.iload_n 3, 1) := by decide +kernel
theorem d_Mo_keepAll_11 : decode c_Mo_keepAll 11 = .ok (.invokestatic 211, 3) := by decide +kernel
theorem d_Mo_keepAll_14 : decode c_Mo_keepAll 14 = .ok (.iload_n 1, 1) := by decide +kernel
theorem d_Mo_keepAll_15 : decode c_Mo_keepAll 15 = .ok (.iload_n 3, 1) := by decide +kernel
theorem d_Mo_keepAll_16 : decode c_Mo_keepAll 16 = .ok (.invokestatic 211, 3) := by decide +kernel
theorem d_Mo_keepAll_19 : decode c_Mo_keepAll 19 = .ok (.invokevirtual 218, 3) := by decide +kernel
theorem d_Mo_keepAll_22 : decode c_Mo_keepAll 22 = .ok (.iinc 3 1, 3) := by decide +kernel
theorem d_Mo_keepAll_25 : decode c_Mo_keepAll 25 = .ok (.goto (-23), 3) := by decide +kernel
theorem d_Mo_keepAll_28 : decode c_Mo_keepAll 28 = .ok (.return_, 1) := by decide +kernel
set_option maxRecDepth 100000 in
set_option maxHeartbeats 16000000 in
/-- keepAll(b9, c9) -/
theorem g_Mo_keepAll (l : Launch) (G : va_G) (k : Nat → ClassId) (h0 : Nat) (s0 : Nat) (b9 : Nat) (c9 : Nat) (ma : Nat → Nat) (iv : Nat → Int32) (co : Int64) (L : Nat → Int64) (hbk : b9 < 40) (hc : c9 ≤ 40) (hbc : b9 ≠ c9) : CV l y_Mo_keepAll c_Mo_keepAll 4 { frames := 1, cells := 0, slots := 0, locals := 23 } [.ref h0, .int (nI b9), .int (nI c9)] G k s0 [(h0, .inr (8, moL ma iv co)), ((ma 13), .inl (k 1, 36982, .inr (.inl L)))] (fun (u : Nat → Int64) => (∀ k9, k9 < 20 → lz u (22 * b9 + k9) = lz L (22 * c9 + k9)) ∧ ∀ x, x < 22 * b9 ∨ 22 * b9 + 20 ≤ x → lz u x = lz L x) (fun u => [(h0, .inr (8, moL ma iv co)), ((ma 13), .inl (k 1, 36982, .inr (.inl u)))]) 0 0 := by
  refine met_start (by decide) (Nat.le_of_ble_eq_true rfl) ?_
  intro p e s m below meth c C K hA hsz S ls hl
  generalize va_A [(h0, .inr (8, moL ma iv co)), ((ma 13), .inl (k 1, 36982, .inr (.inl L)))] s0 = A at hA S ⊢
  have hx := C.1
  have hb := C.2.1
  have hl : lv_has ls 4 [(0, .ref h0), (1, .int (nI b9)), (2, .int (nI c9))] := hl
  refine lv_iconst (v := 0) hx hb d_Mo_keepAll_0 (by decide) ?_
  refine lv_istore_n (lv' := [(3, .int 0), (0, .ref h0), (1, .int (nI b9)), (2, .int (nI c9))]) hx hb d_Mo_keepAll_1 rfl hl (by decide) rfl (fun ls hl => ?_)
  have lp : ∀ d9, ∀ (t : Nat), ∀ (L9 : Nat → Int64), (20 - t) < d9 → (t ≤ 20) → (∀ k9, k9 < t → lz L9 (22 * b9 + k9) = lz L (22 * c9 + k9)) → (∀ x, x < 22 * b9 ∨ 22 * b9 + 20 ≤ x → lz L9 x = lz L x) → ∀ (H : Heap) (locs : List Loc), Sw G A s.heap H locs [(h0, .inr (8, moL ma iv co)), ((ma 13), .inl (k 1, 36982, .inr (.inl L9)))] → ∀ ls : Array Slot, lv_has ls 4 [(3, .int (nI t)), (0, .ref h0), (1, .int (nI b9)), (2, .int (nI c9))] → W p l e { frames := 1, cells := 0, slots := 0, locals := 23 } s m [Value.ref h0, Value.int (nI b9), Value.int (nI c9)].toArray below meth c H locs 0 0 (MQ below (va_Qv (fun (u : Nat → Int64) => (∀ k9, k9 < 20 → lz u (22 * b9 + k9) = lz L (22 * c9 + k9)) ∧ ∀ x, x < 22 * b9 ∨ 22 * b9 + 20 ≤ x → lz u x = lz L x) (Po G k A (fun u => [(h0, .inr (8, moL ma iv co)), ((ma 13), .inl (k 1, 36982, .inr (.inl u)))])) A) [Value.ref h0, Value.int (nI b9), Value.int (nI c9)].toArray s 0 0 A) (F0 m 2 ls []) := by
    intro d9
    induction d9 with
    | zero => intro t L9 hm; exact absurd hm (Nat.not_lt_zero _)
    | succ d9 ih_lp =>
      intro t L9 hm ht hz ho H locs S ls hl
      refine lv_iload_n hx hb d_Mo_keepAll_2 rfl (lv_at hl 0 rfl) ?_
      refine lv_bipush (v := 19) hx hb d_Mo_keepAll_3 (by decide) ?_
      refine z_icmp_gt (a := t) (b := 19) (tgt := 28) hx hb d_Mo_keepAll_5 (by decide) (by omega) (by omega) (fun hc1 => ?_) (fun hc1 => ?_)
      · exact r_vret C K L9 ⟨fun k9 hk => hz k9 (by omega), ho⟩ (S.sub [0, 1] (by decide) rfl) d_Mo_keepAll_28 (Nat.le_of_ble_eq_true rfl) (Nat.le_of_ble_eq_true rfl)
      · refine lv_aload_n hx hb d_Mo_keepAll_8 rfl (lv_at hl 1 rfl) ?_
        refine lv_iload_n hx hb d_Mo_keepAll_9 rfl (lv_at hl 3 rfl) ?_
        refine lv_iload_n hx hb d_Mo_keepAll_10 rfl (lv_at hl 0 rfl) ?_
        refine r_backi (wi := []) (wr := [(h0, .inr (8, moL ma iv co)), ((ma 13), .inl (k 1, 36982, .inr (.inl L9)))]) S hA [] [0, 1] rfl rfl (by decide) (by decide) (va_runS (As := [.int (nI c9), .int (nI t)]) (rest := [.ref h0]) ⟨hx, hb, C.2.2.1, C.2.2.2.1, C.2.2.2.2.1⟩ (g_Mo_line l G k _ c9 t) (k_stat (n := 2) C wc_Mo_line rfl rfl wz_Mo wm_Mo_211 wt_Mo_line (by decide +kernel) ⟨(Nat.le_of_ble_eq_true rfl), (Nat.le_of_ble_eq_true rfl)⟩) (pr_now K S [] (by decide) rfl) rfl rfl hl.1 rfl (lv_room (Nat.le_of_ble_eq_true rfl)) d_Mo_keepAll_11 ⟨(Nat.le_of_ble_eq_true rfl), (Nat.le_of_ble_eq_true rfl)⟩) (fun r4 u2 H locs hw3 S => ?_)
        have S : Sw G A s.heap _ _ [(h0, .inr (8, moL ma iv co)), ((ma 13), .inl (k 1, 36982, .inr (.inl L9)))] := S
        obtain rfl : r4 = nI ((22 * c9 + t) * 41) := hw3
        refine lv_iload_n hx hb d_Mo_keepAll_14 rfl (lv_at hl 2 rfl) ?_
        refine lv_iload_n hx hb d_Mo_keepAll_15 rfl (lv_at hl 0 rfl) ?_
        refine r_backi (wi := []) (wr := [(h0, .inr (8, moL ma iv co)), ((ma 13), .inl (k 1, 36982, .inr (.inl L9)))]) S hA [] [0, 1] rfl rfl (by decide) (by decide) (va_runS (As := [.int (nI b9), .int (nI t)]) (rest := [.int (nI ((22 * c9 + t) * 41)), .ref h0]) ⟨hx, hb, C.2.2.1, C.2.2.2.1, C.2.2.2.2.1⟩ (g_Mo_line l G k _ b9 t) (k_stat (n := 2) C wc_Mo_line rfl rfl wz_Mo wm_Mo_211 wt_Mo_line (by decide +kernel) ⟨(Nat.le_of_ble_eq_true rfl), (Nat.le_of_ble_eq_true rfl)⟩) (pr_now K S [] (by decide) rfl) rfl rfl hl.1 rfl (lv_room (Nat.le_of_ble_eq_true rfl)) d_Mo_keepAll_16 ⟨(Nat.le_of_ble_eq_true rfl), (Nat.le_of_ble_eq_true rfl)⟩) (fun r8 u6 H locs hw7 S => ?_)
        have S : Sw G A s.heap _ _ [(h0, .inr (8, moL ma iv co)), ((ma 13), .inl (k 1, 36982, .inr (.inl L9)))] := S
        obtain rfl : r8 = nI ((22 * b9 + t) * 41) := hw7
        refine r_backv (wi := [(h0, .inr (8, moL ma iv co)), ((ma 13), .inl (k 1, 36982, .inr (.inl L9)))]) (wr := []) S hA [0, 1] [] rfl rfl (by decide) (by decide) (va_runV (As := [.int (nI ((22 * c9 + t) * 41)), .int (nI ((22 * b9 + t) * 41))]) (rest := []) ⟨hx, hb, C.2.2.1, C.2.2.2.1, C.2.2.2.2.1⟩ (g_Mo_copy l G k h0 _ ma iv co L9 ((22 * c9 + t) * 41) ((22 * b9 + t) * 41) (by omega) (by omega) (by omega)) (k_virt (n := 2) C wc_Mo_copy rfl rfl wz_Mo wm_Mo_218 wn_Mo_copy ws_Mo_copy (by decide +kernel) ⟨(Nat.le_of_ble_eq_true rfl), (Nat.le_of_ble_eq_true rfl)⟩) (pr_nowV K S [0, 1] (by decide) rfl 0 rfl rfl) rfl rfl hl.1 rfl (lv_room (Nat.le_of_ble_eq_true rfl)) d_Mo_keepAll_19 ⟨(Nat.le_of_ble_eq_true rfl), (Nat.le_of_ble_eq_true rfl)⟩) (fun u10 H locs hw11 S => ?_)
        have S : Sw G A s.heap _ _ [(h0, .inr (8, moL ma iv co)), ((ma 13), .inl (k 1, 36982, .inr (.inl (lnP L9 ((22 * c9 + t) * 41) ((22 * b9 + t) * 41) 41))))] := S
        refine lv_iinc (v := nI (t + 1)) (lv' := [(3, .int (nI (t + 1))), (0, .ref h0), (1, .int (nI b9)), (2, .int (nI c9))]) hx hb d_Mo_keepAll_22 hl (k := 0) rfl (show nI t + Int32.ofInt 1 = nI (t + 1) from (nI_add t 1).trans (congrArg nI (by omega))) (by decide) rfl (fun ls hl => ?_)
        refine lv_goto (tgt := 2) hx hb d_Mo_keepAll_25 (by decide) ?_
        exact ih_lp (t + 1) (lnP L9 ((22 * c9 + t) * 41) ((22 * b9 + t) * 41) 41) (by omega) (by omega) (fun k9 hk => (Nat.lt_or_eq_of_le (Nat.le_of_lt_succ hk)).elim (fun q => by rw [lz_P_ne (by omega)]; exact hz k9 q) (fun q => by rw [q, lz_P]; exact ho _ (by omega))) (fun x hx => by rw [lz_P_ne (by omega)]; exact ho x hx) _ _ (S.sub [0, 1] (by decide) rfl) ls (lv_sub hl [0, 1, 2, 3] rfl)
  exact lp _ 0 L (Nat.lt_succ_self _) (by omega) (fun _ h => absurd h (Nat.not_lt_zero _)) (fun _ _ => rfl) _ _ (S.sub [0, 1] (by decide) rfl) ls (lv_sub hl [0, 1, 2, 3] rfl)
theorem d_Mo_openNeed_0 : decode c_Mo_openNeed 0 = .ok (.aload_n 0, 1) := by decide +kernel
theorem d_Mo_openNeed_1 : decode c_Mo_openNeed 1 = .ok (.getfield 67, 3) := by decide +kernel
theorem d_Mo_openNeed_4 : decode c_Mo_openNeed 4 = .ok (.aload_n 0, 1) := by decide +kernel
theorem d_Mo_openNeed_5 : decode c_Mo_openNeed 5 = .ok (.getfield 221, 3) := by decide +kernel
theorem d_Mo_openNeed_8 : decode c_Mo_openNeed 8 = .ok (.aload_n 0, 1) := by decide +kernel
theorem d_Mo_openNeed_9 : decode c_Mo_openNeed 9 = .ok (.iload_n 3, 1) := by decide +kernel
theorem d_Mo_openNeed_10 : decode c_Mo_openNeed 10 = .ok (.iload 4, 2) := by decide +kernel
theorem d_Mo_openNeed_12 : decode c_Mo_openNeed 12 = .ok (.invokevirtual 224, 3) := by decide +kernel
theorem d_Mo_openNeed_15 : decode c_Mo_openNeed 15 = .ok (.iastore, 1) := by decide +kernel
theorem d_Mo_openNeed_16 : decode c_Mo_openNeed 16 = .ok (.aload_n 0, 1) := by decide +kernel
theorem d_Mo_openNeed_17 : decode c_Mo_openNeed 17 = .ok (.getfield 70, 3) := by decide +kernel
theorem d_Mo_openNeed_20 : decode c_Mo_openNeed 20 = .ok (.aload_n 0, 1) := by decide +kernel
theorem d_Mo_openNeed_21 : decode c_Mo_openNeed 21 = .ok (.getfield 221, 3) := by decide +kernel
theorem d_Mo_openNeed_24 : decode c_Mo_openNeed 24 = .ok (.iload_n 1, 1) := by decide +kernel
theorem d_Mo_openNeed_25 : decode c_Mo_openNeed 25 = .ok (.iastore, 1) := by decide +kernel
theorem d_Mo_openNeed_26 : decode c_Mo_openNeed 26 = .ok (.aload_n 0, 1) := by decide +kernel
theorem d_Mo_openNeed_27 : decode c_Mo_openNeed 27 = .ok (.getfield 73, 3) := by decide +kernel
theorem d_Mo_openNeed_30 : decode c_Mo_openNeed 30 = .ok (.aload_n 0, 1) := by decide +kernel
theorem d_Mo_openNeed_31 : decode c_Mo_openNeed 31 = .ok (.getfield 221, 3) := by decide +kernel
theorem d_Mo_openNeed_34 : decode c_Mo_openNeed 34 = .ok (.iload_n 2, 1) := by decide +kernel
theorem d_Mo_openNeed_35 : decode c_Mo_openNeed 35 = .ok (.iastore, 1) := by decide +kernel
theorem d_Mo_openNeed_36 : decode c_Mo_openNeed 36 = .ok (.aload_n 0, 1) := by decide +kernel
theorem d_Mo_openNeed_37 : decode c_Mo_openNeed 37 = .ok (.getfield 76, 3) := by decide +kernel
theorem d_Mo_openNeed_40 : decode c_Mo_openNeed 40 = .ok (.aload_n 0, 1) := by decide +kernel
theorem d_Mo_openNeed_41 : decode c_Mo_openNeed 41 = .ok (.getfield 221, 3) := by decide +kernel
theorem d_Mo_openNeed_44 : decode c_Mo_openNeed 44 = .ok (.iconst 0, 1) := by decide +kernel
theorem d_Mo_openNeed_45 : decode c_Mo_openNeed 45 = .ok (.iastore, 1) := by decide +kernel
theorem d_Mo_openNeed_46 : decode c_Mo_openNeed 46 = .ok (.aload_n 0, 1) := by decide +kernel
theorem d_Mo_openNeed_47 : decode c_Mo_openNeed 47 = .ok (.dup, 1) := by decide +kernel
theorem d_Mo_openNeed_48 : decode c_Mo_openNeed 48 = .ok (.getfield 221, 3) := by decide +kernel
theorem d_Mo_openNeed_51 : decode c_Mo_openNeed 51 = .ok (.iconst 1, 1) := by decide +kernel
theorem d_Mo_openNeed_52 : decode c_Mo_openNeed 52 = .ok (.iadd, 1) := by decide +kernel
theorem d_Mo_openNeed_53 : decode c_Mo_openNeed 53 = .ok (.putfield 221, 3) := by decide +kernel
theorem d_Mo_openNeed_56 : decode c_Mo_openNeed 56 = .ok (.return_, 1) := by decide +kernel
set_option maxRecDepth 100000 in
set_option maxHeartbeats 16000000 in
/-- openNeed(p9, kn, g9, e9) -/
theorem g_Mo_openNeed (l : Launch) (G : va_G) (k : Nat → ClassId) (h0 : Nat) (s0 : Nat) (p9 : Nat) (kn : Nat) (g9 : Nat) (e9 : Nat) (b9 : Nat) (n9 : Nat) (ma : Nat → Nat) (iv : Nat → Int32) (co : Int64) (L : Nat → Int64) (NB : Nat → Nat) (NA : Nat → Nat) (NK : Nat → Nat) (NP : Nat → Nat) (hbk : b9 < 40) (hg : g9 < 22 * b9 ∨ (880 ≤ g9 ∧ g9 < 902)) (hd : e9 < 22 * b9 ∨ (880 ≤ e9 ∧ e9 < 902)) (hn : n9 < 20) : CV l y_Mo_openNeed c_Mo_openNeed 5 { frames := 2, cells := 0, slots := 0, locals := 47 } [.ref h0, .int (nI p9), .int (nI kn), .int (nI (g9 * 41)), .int (nI (e9 * 41))] G k s0 [(h0, .inr (8, moL ma (va_up (va_up iv 13 (nI b9)) 17 (nI n9)) co)), ((ma 13), .inl (k 1, 36982, .inr (.inl L))), ((ma 16), .inl (k 0, 20, .inl (fun i => nI (NB i)))), ((ma 17), .inl (k 0, 20, .inl (fun i => nI (NA i)))), ((ma 18), .inl (k 0, 20, .inl (fun i => nI (NK i)))), ((ma 19), .inl (k 0, 20, .inl (fun i => nI (NP i))))] (fun (u : Nat → Int64) => (∀ k9, k9 < 20 → lz u (22 * b9 + k9) = 0) ∧ lz u (22 * b9 + 20) = lz L g9 ∧ lz u (22 * b9 + 21) = lz L e9 ∧ ∀ x, x < 22 * b9 ∨ 22 * b9 + 22 ≤ x → lz u x = lz L x) (fun u => [(h0, .inr (8, moL ma (va_up (va_up iv 13 (nI (b9 + 1))) 17 (nI (n9 + 1))) co)), ((ma 13), .inl (k 1, 36982, .inr (.inl u))), ((ma 16), .inl (k 0, 20, .inl (fun i => nI ((va_up NB n9 b9) i)))), ((ma 17), .inl (k 0, 20, .inl (fun i => nI ((va_up NA n9 p9) i)))), ((ma 18), .inl (k 0, 20, .inl (fun i => nI ((va_up NK n9 kn) i)))), ((ma 19), .inl (k 0, 20, .inl (fun i => nI ((va_up NP n9 0) i))))]) 0 0 := by
  refine met_start (by decide) (Nat.le_of_ble_eq_true rfl) ?_
  intro p e s m below meth c C K hA hsz S ls hl
  generalize va_A [(h0, .inr (8, moL ma (va_up (va_up iv 13 (nI b9)) 17 (nI n9)) co)), ((ma 13), .inl (k 1, 36982, .inr (.inl L))), ((ma 16), .inl (k 0, 20, .inl (fun i => nI (NB i)))), ((ma 17), .inl (k 0, 20, .inl (fun i => nI (NA i)))), ((ma 18), .inl (k 0, 20, .inl (fun i => nI (NK i)))), ((ma 19), .inl (k 0, 20, .inl (fun i => nI (NP i))))] s0 = A at hA S ⊢
  have hx := C.1
  have hb := C.2.1
  have hl : lv_has ls 5 [(0, .ref h0), (1, .int (nI p9)), (2, .int (nI kn)), (3, .int (nI (g9 * 41))), (4, .int (nI (e9 * 41)))] := hl
  refine lv_aload_n hx hb d_Mo_openNeed_0 rfl (lv_at hl 0 rfl) ?_
  refine r_get C K S 0 rfl rfl clOk_Mo 35 (by decide) wf_Mo_67 (v := .ref (ma 16)) rfl d_Mo_openNeed_1 ?_
  refine lv_aload_n hx hb d_Mo_openNeed_4 rfl (lv_at hl 0 rfl) ?_
  refine r_get C K S 0 rfl rfl clOk_Mo 34 (by decide) wf_Mo_221 (v := .int (nI n9)) rfl d_Mo_openNeed_5 ?_
  refine lv_aload_n hx hb d_Mo_openNeed_8 rfl (lv_at hl 0 rfl) ?_
  refine lv_iload_n hx hb d_Mo_openNeed_9 rfl (lv_at hl 3 rfl) ?_
  refine lv_iload hx hb d_Mo_openNeed_10 (lv_at hl 4 rfl) ?_
  refine r_backi (wi := [(h0, .inr (8, moL ma (va_up (va_up iv 17 (nI n9)) 13 (nI b9)) co)), ((ma 13), .inl (k 1, 36982, .inr (.inl L)))]) (wr := [((ma 16), .inl (k 0, 20, .inl (fun i => nI (NB i)))), ((ma 17), .inl (k 0, 20, .inl (fun i => nI (NA i)))), ((ma 18), .inl (k 0, 20, .inl (fun i => nI (NK i)))), ((ma 19), .inl (k 0, 20, .inl (fun i => nI (NP i))))]) S hA [0, 1] [2, 3, 4, 5] rfl rfl (by decide) (by decide) (va_runV (As := [.int (nI (g9 * 41)), .int (nI (e9 * 41))]) (rest := [.int (nI n9), .ref (ma 16)]) ⟨hx, hb, C.2.2.1, C.2.2.2.1, C.2.2.2.2.1⟩ (g_Mo_newBlock l G k h0 _ g9 e9 b9 ma (va_up iv 17 (nI n9)) co L hbk hg hd) (k_virt (n := 2) C wc_Mo_newBlock rfl rfl wz_Mo wm_Mo_224 wn_Mo_newBlock ws_Mo_newBlock (by decide +kernel) ⟨(Nat.le_of_ble_eq_true rfl), (Nat.le_of_ble_eq_true rfl)⟩) (pr_nowV K S [0, 1] (by decide) rfl 0 rfl rfl) rfl rfl hl.1 rfl (lv_room (Nat.le_of_ble_eq_true rfl)) d_Mo_openNeed_12 ⟨(Nat.le_of_ble_eq_true rfl), (Nat.le_of_ble_eq_true rfl)⟩) (fun r2 lu H locs hw1 S => ?_)
  have S : Sw G A s.heap _ _ [((ma 16), .inl (k 0, 20, .inl (fun i => nI (NB i)))), ((ma 17), .inl (k 0, 20, .inl (fun i => nI (NA i)))), ((ma 18), .inl (k 0, 20, .inl (fun i => nI (NK i)))), ((ma 19), .inl (k 0, 20, .inl (fun i => nI (NP i)))), (h0, .inr (8, moL ma (va_up (va_up iv 17 (nI n9)) 13 (nI (b9 + 1))) co)), ((ma 13), .inl (k 1, 36982, .inr (.inl lu)))] := S
  obtain ⟨hw10, hlu⟩ := hw1
  obtain rfl : r2 = nI b9 := hw10
  refine r_iast C K S 0 rfl (i := nI n9) (x := nI b9) (show vp_in (nI n9) _ from vp_in_nI (n := n9) (by omega) (by decide)) (f' := fun i => nI (va_up NB n9 b9 i)) (ws' := [((ma 16), .inl (k 0, 20, .inl (fun i => nI (va_up NB n9 b9 i)))), ((ma 17), .inl (k 0, 20, .inl (fun i => nI (NA i)))), ((ma 18), .inl (k 0, 20, .inl (fun i => nI (NK i)))), ((ma 19), .inl (k 0, 20, .inl (fun i => nI (NP i)))), (h0, .inr (8, moL ma (va_up (va_up iv 17 (nI n9)) 13 (nI (b9 + 1))) co)), ((ma 13), .inl (k 1, 36982, .inr (.inl lu)))]) (show upd _ (nI n9 : Int32).toNatClampNeg (nI b9) = _ from upd_nI NB (j := n9) (by omega) b9) rfl d_Mo_openNeed_15 (fun H locs S => ?_)
  refine lv_aload_n hx hb d_Mo_openNeed_16 rfl (lv_at hl 0 rfl) ?_
  refine r_get C K S 4 rfl rfl clOk_Mo 36 (by decide) wf_Mo_70 (v := .ref (ma 17)) rfl d_Mo_openNeed_17 ?_
  refine lv_aload_n hx hb d_Mo_openNeed_20 rfl (lv_at hl 0 rfl) ?_
  refine r_get C K S 4 rfl rfl clOk_Mo 34 (by decide) wf_Mo_221 (v := .int (nI n9)) rfl d_Mo_openNeed_21 ?_
  refine lv_iload_n hx hb d_Mo_openNeed_24 rfl (lv_at hl 1 rfl) ?_
  refine r_iast C K S 1 rfl (i := nI n9) (x := nI p9) (show vp_in (nI n9) _ from vp_in_nI (n := n9) (by omega) (by decide)) (f' := fun i => nI (va_up NA n9 p9 i)) (ws' := [((ma 16), .inl (k 0, 20, .inl (fun i => nI (va_up NB n9 b9 i)))), ((ma 17), .inl (k 0, 20, .inl (fun i => nI (va_up NA n9 p9 i)))), ((ma 18), .inl (k 0, 20, .inl (fun i => nI (NK i)))), ((ma 19), .inl (k 0, 20, .inl (fun i => nI (NP i)))), (h0, .inr (8, moL ma (va_up (va_up iv 17 (nI n9)) 13 (nI (b9 + 1))) co)), ((ma 13), .inl (k 1, 36982, .inr (.inl lu)))]) (show upd _ (nI n9 : Int32).toNatClampNeg (nI p9) = _ from upd_nI NA (j := n9) (by omega) p9) rfl d_Mo_openNeed_25 (fun H locs S => ?_)
  refine lv_aload_n hx hb d_Mo_openNeed_26 rfl (lv_at hl 0 rfl) ?_
  refine r_get C K S 4 rfl rfl clOk_Mo 37 (by decide) wf_Mo_73 (v := .ref (ma 18)) rfl d_Mo_openNeed_27 ?_
  refine lv_aload_n hx hb d_Mo_openNeed_30 rfl (lv_at hl 0 rfl) ?_
  refine r_get C K S 4 rfl rfl clOk_Mo 34 (by decide) wf_Mo_221 (v := .int (nI n9)) rfl d_Mo_openNeed_31 ?_
  refine lv_iload_n hx hb d_Mo_openNeed_34 rfl (lv_at hl 2 rfl) ?_
  refine r_iast C K S 2 rfl (i := nI n9) (x := nI kn) (show vp_in (nI n9) _ from vp_in_nI (n := n9) (by omega) (by decide)) (f' := fun i => nI (va_up NK n9 kn i)) (ws' := [((ma 16), .inl (k 0, 20, .inl (fun i => nI (va_up NB n9 b9 i)))), ((ma 17), .inl (k 0, 20, .inl (fun i => nI (va_up NA n9 p9 i)))), ((ma 18), .inl (k 0, 20, .inl (fun i => nI (va_up NK n9 kn i)))), ((ma 19), .inl (k 0, 20, .inl (fun i => nI (NP i)))), (h0, .inr (8, moL ma (va_up (va_up iv 17 (nI n9)) 13 (nI (b9 + 1))) co)), ((ma 13), .inl (k 1, 36982, .inr (.inl lu)))]) (show upd _ (nI n9 : Int32).toNatClampNeg (nI kn) = _ from upd_nI NK (j := n9) (by omega) kn) rfl d_Mo_openNeed_35 (fun H locs S => ?_)
  refine lv_aload_n hx hb d_Mo_openNeed_36 rfl (lv_at hl 0 rfl) ?_
  refine r_get C K S 4 rfl rfl clOk_Mo 38 (by decide) wf_Mo_76 (v := .ref (ma 19)) rfl d_Mo_openNeed_37 ?_
  refine lv_aload_n hx hb d_Mo_openNeed_40 rfl (lv_at hl 0 rfl) ?_
  refine r_get C K S 4 rfl rfl clOk_Mo 34 (by decide) wf_Mo_221 (v := .int (nI n9)) rfl d_Mo_openNeed_41 ?_
  refine lv_iconst (v := 0) hx hb d_Mo_openNeed_44 (by decide) ?_
  refine r_iast C K S 3 rfl (i := nI n9) (x := 0) (show vp_in (nI n9) _ from vp_in_nI (n := n9) (by omega) (by decide)) (f' := fun i => nI (va_up NP n9 0 i)) (ws' := [((ma 16), .inl (k 0, 20, .inl (fun i => nI (va_up NB n9 b9 i)))), ((ma 17), .inl (k 0, 20, .inl (fun i => nI (va_up NA n9 p9 i)))), ((ma 18), .inl (k 0, 20, .inl (fun i => nI (va_up NK n9 kn i)))), ((ma 19), .inl (k 0, 20, .inl (fun i => nI (va_up NP n9 0 i)))), (h0, .inr (8, moL ma (va_up (va_up iv 17 (nI n9)) 13 (nI (b9 + 1))) co)), ((ma 13), .inl (k 1, 36982, .inr (.inl lu)))]) (show upd _ (nI n9 : Int32).toNatClampNeg 0 = _ from upd_nI NP (j := n9) (by omega) 0) rfl d_Mo_openNeed_45 (fun H locs S => ?_)
  refine lv_aload_n hx hb d_Mo_openNeed_46 rfl (lv_at hl 0 rfl) ?_
  refine lv_dup hx hb d_Mo_openNeed_47 rfl ?_
  refine r_get C K S 4 rfl rfl clOk_Mo 34 (by decide) wf_Mo_221 (v := .int (nI n9)) rfl d_Mo_openNeed_48 ?_
  refine lv_iconst (v := 1) hx hb d_Mo_openNeed_51 (by decide) ?_
  refine z_iadd (x := nI n9) (y := 1) (v := nI (n9 + 1)) hx hb d_Mo_openNeed_52 (nI_add n9 1) ?_
  refine r_put C K S 4 rfl rfl clOk_Mo 34 (by decide) wf_Mo_221 rfl (ty := .int) (v := .int (nI (n9 + 1))) (by decide +kernel) rfl rfl (Nat.le_of_ble_eq_true rfl) (fs' := moL ma (va_up (va_up iv 13 (nI (b9 + 1))) 17 (nI (n9 + 1))) co) (ws' := [((ma 16), .inl (k 0, 20, .inl (fun i => nI (va_up NB n9 b9 i)))), ((ma 17), .inl (k 0, 20, .inl (fun i => nI (va_up NA n9 p9 i)))), ((ma 18), .inl (k 0, 20, .inl (fun i => nI (va_up NK n9 kn i)))), ((ma 19), .inl (k 0, 20, .inl (fun i => nI (va_up NP n9 0 i)))), (h0, .inr (8, moL ma (va_up (va_up iv 13 (nI (b9 + 1))) 17 (nI (n9 + 1))) co)), ((ma 13), .inl (k 1, 36982, .inr (.inl lu)))]) rfl rfl d_Mo_openNeed_53 (fun H locs S => ?_)
  exact r_vret C K lu hlu (S.sub [4, 5, 0, 1, 2, 3] (by decide) rfl) d_Mo_openNeed_56 (Nat.le_of_ble_eq_true rfl) (Nat.le_of_ble_eq_true rfl)
theorem d_Mo_endNeed_0 : decode c_Mo_endNeed 0 = .ok (.aload_n 0, 1) := by decide +kernel
theorem d_Mo_endNeed_1 : decode c_Mo_endNeed 1 = .ok (.dup, 1) := by decide +kernel
theorem d_Mo_endNeed_2 : decode c_Mo_endNeed 2 = .ok (.getfield 221, 3) := by decide +kernel
theorem d_Mo_endNeed_5 : decode c_Mo_endNeed 5 = .ok (.iconst 1, 1) := by decide +kernel
theorem d_Mo_endNeed_6 : decode c_Mo_endNeed 6 = .ok (.isub, 1) := by decide +kernel
theorem d_Mo_endNeed_7 : decode c_Mo_endNeed 7 = .ok (.putfield 221, 3) := by decide +kernel
theorem d_Mo_endNeed_10 : decode c_Mo_endNeed 10 = .ok (.aload_n 0, 1) := by decide +kernel
theorem d_Mo_endNeed_11 : decode c_Mo_endNeed 11 = .ok (.aload_n 0, 1) := by decide +kernel
theorem d_Mo_endNeed_12 : decode c_Mo_endNeed 12 = .ok (.getfield 67, 3) := by decide +kernel
theorem d_Mo_endNeed_15 : decode c_Mo_endNeed 15 = .ok (.aload_n 0, 1) := by decide +kernel
theorem d_Mo_endNeed_16 : decode c_Mo_endNeed 16 = .ok (.getfield 221, 3) := by decide +kernel
theorem d_Mo_endNeed_19 : decode c_Mo_endNeed 19 = .ok (.iaload, 1) := by decide +kernel
theorem d_Mo_endNeed_20 : decode c_Mo_endNeed 20 = .ok (.putfield 241, 3) := by decide +kernel
theorem d_Mo_endNeed_23 : decode c_Mo_endNeed 23 = .ok (.return_, 1) := by decide +kernel
set_option maxRecDepth 100000 in
set_option maxHeartbeats 16000000 in
/-- endNeed() -/
theorem g_Mo_endNeed (l : Launch) (G : va_G) (k : Nat → ClassId) (h0 : Nat) (s0 : Nat) (n9 : Nat) (ma : Nat → Nat) (iv : Nat → Int32) (co : Int64) (NB : Nat → Nat) (hn : n9 < 20) : CV l y_Mo_endNeed c_Mo_endNeed 1 { frames := 0, cells := 0, slots := 0, locals := 0 } [.ref h0] G k s0 [(h0, .inr (8, moL ma (va_up iv 17 (nI (n9 + 1))) co)), ((ma 16), .inl (k 0, 20, .inl (fun i => nI (NB i))))] (fun (u : Unit) => True) (fun u => [(h0, .inr (8, moL ma (va_up (va_up iv 17 (nI n9)) 18 (nI (NB n9))) co)), ((ma 16), .inl (k 0, 20, .inl (fun i => nI (NB i))))]) 0 0 := by
  refine met_start (by decide) (Nat.le_of_ble_eq_true rfl) ?_
  intro p e s m below meth c C K hA hsz S ls hl
  generalize va_A [(h0, .inr (8, moL ma (va_up iv 17 (nI (n9 + 1))) co)), ((ma 16), .inl (k 0, 20, .inl (fun i => nI (NB i))))] s0 = A at hA S ⊢
  have hx := C.1
  have hb := C.2.1
  have hl : lv_has ls 1 [(0, .ref h0)] := hl
  refine lv_aload_n hx hb d_Mo_endNeed_0 rfl (lv_at hl 0 rfl) ?_
  refine lv_dup hx hb d_Mo_endNeed_1 rfl ?_
  refine r_get C K S 0 rfl rfl clOk_Mo 34 (by decide) wf_Mo_221 (v := .int (nI (n9 + 1))) rfl d_Mo_endNeed_2 ?_
  refine lv_iconst (v := 1) hx hb d_Mo_endNeed_5 (by decide) ?_
  refine z_isub (x := nI (n9 + 1)) (y := 1) (v := nI (n9 + 1 - 1)) hx hb d_Mo_endNeed_6 (pk_sub (a := (n9 + 1)) (b := 1) (by omega)) ?_
  refine r_put C K S 0 rfl rfl clOk_Mo 34 (by decide) wf_Mo_221 rfl (ty := .int) (v := .int (nI (n9 + 1 - 1))) (by decide +kernel) rfl rfl (Nat.le_of_ble_eq_true rfl) (fs' := moL ma (va_up iv 17 (nI (n9 + 1 - 1))) co) (ws' := [(h0, .inr (8, moL ma (va_up iv 17 (nI (n9 + 1 - 1))) co)), ((ma 16), .inl (k 0, 20, .inl (fun i => nI (NB i))))]) rfl rfl d_Mo_endNeed_7 (fun H locs S => ?_)
  have S : Sw G A s.heap H locs [(h0, .inr (8, moL ma (va_up iv 17 (nI n9)) co)), ((ma 16), .inl (k 0, 20, .inl (fun i => nI (NB i))))] := S
  refine lv_aload_n hx hb d_Mo_endNeed_10 rfl (lv_at hl 0 rfl) ?_
  refine lv_aload_n hx hb d_Mo_endNeed_11 rfl (lv_at hl 0 rfl) ?_
  refine r_get C K S 0 rfl rfl clOk_Mo 35 (by decide) wf_Mo_67 (v := .ref (ma 16)) rfl d_Mo_endNeed_12 ?_
  refine lv_aload_n hx hb d_Mo_endNeed_15 rfl (lv_at hl 0 rfl) ?_
  refine r_get C K S 0 rfl rfl clOk_Mo 34 (by decide) wf_Mo_221 (v := .int (nI n9)) rfl d_Mo_endNeed_16 ?_
  refine r_iald C K S 1 rfl (i := nI n9) (show vp_in (nI n9) _ from vp_in_nI (n := n9) (by omega) (by decide)) (v := nI (NB n9)) (by rw [nI_clamp (by omega)]) d_Mo_endNeed_19 ?_
  refine r_put C K S 0 rfl rfl clOk_Mo 40 (by decide) wf_Mo_241 rfl (ty := .int) (v := .int (nI (NB n9))) (by decide +kernel) rfl rfl (Nat.le_of_ble_eq_true rfl) (fs' := moL ma (va_up (va_up iv 17 (nI n9)) 18 (nI (NB n9))) co) (ws' := [(h0, .inr (8, moL ma (va_up (va_up iv 17 (nI n9)) 18 (nI (NB n9))) co)), ((ma 16), .inl (k 0, 20, .inl (fun i => nI (NB i))))]) rfl rfl d_Mo_endNeed_20 (fun H locs S => ?_)
  exact r_vret C K () trivial (S.sub [0, 1] (by decide) rfl) d_Mo_endNeed_23 (Nat.le_of_ble_eq_true rfl) (Nat.le_of_ble_eq_true rfl)
theorem hdO_5 {W : Nat → Int32} {tk : Nat → Nat} {nf n p q : Nat} (hnf : nf ≤ 4) (h : HDn W tk nf (n + 1) p q) (hq : q ≤ 200) : W p = 5 → p + 1 < 200 ∧ ∃ g, W (p + 1) = nI g ∧ g < 4 := by
  intro h5
  obtain ⟨g, h1, h2⟩ := h.1.2 h5
  have h3 := HDn_le h.2
  have h4 : hdN W tk p = 2 + tk g := hdN_5 h5 h1 (by omega)
  exact ⟨by omega, g, h1, by omega⟩
theorem hdO_2 {W : Nat → Int32} {tk : Nat → Nat} {nf n p q : Nat} (h : HDn W tk nf (n + 1) p q) (h1 : W p = 1 ∨ W p = 3) : p + 2 ≤ q := by
  have h3 := HDn_le h.2
  have h4 : hdN W tk p = 2 := by rcases h1 with w | w <;> exact hdN_2 (by rw [w]; decide) (by rw [w]; decide) (by rw [w]; decide) (by rw [w]; decide)
  omega
theorem nm1_13 {W : Nat → Int32} {tk : Nat → Nat} {v : Int32} {p : Nat} (h : W p = 1 ∨ W p = 3) : nm1 W tk v p = decide (W (p + 1) = v) := if_pos h
theorem nm1_5 {W : Nat → Int32} {tk : Nat → Nat} {v : Int32} {p g : Nat} (h : W p = 5) (h2 : W (p + 1) = nI g) (hg : g < 4) : nm1 W tk v p = nmV W v p (tk g) := by
  unfold nm1
  rw [if_neg (by rw [h]; decide), if_pos h, h2, nI_clamp (by omega)]
theorem nm1_0 {W : Nat → Int32} {tk : Nat → Nat} {v : Int32} {p : Nat} (h1 : ¬ W p = 1) (h3 : ¬ W p = 3) (h5 : ¬ W p = 5) : nm1 W tk v p = false := by
  unfold nm1
  rw [if_neg (fun q => q.elim h1 h3), if_neg h5]
def b01 (b : Bool) : Nat := if b then 1 else 0
theorem b01_le (b : Bool) : b01 b ≤ 1 := by
  cases b <;> decide
theorem nmV_1 {W : Nat → Int32} {v : Int32} {p k : Nat} (h : b01 (nmV W v p k) ≠ 0) : b01 (nmV W v p (k + 1)) = 1 := by
  unfold nmV
  cases hb : nmV W v p k
  · rw [hb] at h; exact absurd rfl h
  · rfl
theorem nmV_2 {W : Nat → Int32} {v : Int32} {p k : Nat} (h : W (p + 2 + k) = v) : b01 (nmV W v p (k + 1)) = 1 := by
  unfold nmV
  rw [decide_eq_true h, Bool.or_true]
  rfl
theorem nmV_3 {W : Nat → Int32} {v : Int32} {p k : Nat} (h : b01 (nmV W v p k) = 0) (h2 : ¬ W (p + 2 + k) = v) : b01 (nmV W v p (k + 1)) = 0 := by
  unfold nmV
  cases hb : nmV W v p k
  · rw [decide_eq_false h2]; rfl
  · rw [hb] at h; exact absurd h (by decide)
theorem d_Mo_isNamed_0 : decode c_Mo_isNamed 0 = .ok (.iload_n 2, 1) := by decide +kernel
theorem d_Mo_isNamed_1 : decode c_Mo_isNamed 1 = .ok (.istore 5, 2) := by decide +kernel
theorem d_Mo_isNamed_3 : decode c_Mo_isNamed 3 = .ok (.iconst 0, 1) := by decide +kernel
theorem d_Mo_isNamed_4 : decode c_Mo_isNamed 4 = .ok (.istore 6, 2) := by decide +kernel
theorem d_Mo_isNamed_6 : decode c_Mo_isNamed 6 = .ok (.iload 5, 2) := by decide +kernel
theorem d_Mo_isNamed_8 : decode c_Mo_isNamed 8 = .ok (.iload_n 3, 1) := by decide +kernel
theorem d_Mo_isNamed_9 : decode c_Mo_isNamed 9 = .ok (.if_icmp .ge 152, 3) := by decide +kernel
theorem d_Mo_isNamed_12 : decode c_Mo_isNamed 12 = .ok (.iload 6, 2) := by decide +kernel
theorem d_Mo_isNamed_14 : decode c_Mo_isNamed 14 = .ok (.ifCond .ne 147, 3) := by decide +kernel
theorem d_Mo_isNamed_17 : decode c_Mo_isNamed 17 = .ok (.aload_n 0, 1) := by decide +kernel
theorem d_Mo_isNamed_18 : decode c_Mo_isNamed 18 = .ok (.getfield 13, 3) := by decide +kernel
theorem d_Mo_isNamed_21 : decode c_Mo_isNamed 21 = .ok (.sipush 200, 3) := by decide +kernel
theorem d_Mo_isNamed_24 : decode c_Mo_isNamed 24 = .ok (.iload_n 1, 1) := by decide +kernel
theorem d_Mo_isNamed_25 : decode c_Mo_isNamed 25 = .ok (.imul, 1) := by decide +kernel
theorem d_Mo_isNamed_26 : decode c_Mo_isNamed 26 = .ok (.iload 5, 2) := by decide +kernel
theorem d_Mo_isNamed_28 : decode c_Mo_isNamed 28 = .ok (.iadd, 1) := by decide +kernel
theorem d_Mo_isNamed_29 : decode c_Mo_isNamed 29 = .ok (.iaload, 1) := by decide +kernel
theorem d_Mo_isNamed_30 : decode c_Mo_isNamed 30 = .ok (.istore 7, 2) := by decide +kernel
theorem d_Mo_isNamed_32 : decode c_Mo_isNamed 32 = .ok (.iload 7, 2) := by decide +kernel
theorem d_Mo_isNamed_34 : decode c_Mo_isNamed 34 = .ok (.iconst 1, 1) := by decide +kernel
theorem d_Mo_isNamed_35 : decode c_Mo_isNamed 35 = .ok (.if_icmp .eq 9, 3) := by decide +kernel
theorem d_Mo_isNamed_38 : decode c_Mo_isNamed 38 = .ok (.iload 7, 2) := by decide +kernel
theorem d_Mo_isNamed_40 : decode c_Mo_isNamed 40 = .ok (.iconst 3, 1) := by decide +kernel
theorem d_Mo_isNamed_41 : decode c_Mo_isNamed 41 = .ok (.if_icmp .ne 30, 3) := by decide +kernel
theorem d_Mo_isNamed_44 : decode c_Mo_isNamed 44 = .ok (.aload_n 0, 1) := by decide +kernel
theorem d_Mo_isNamed_45 : decode c_Mo_isNamed 45 = .ok (.getfield 13, 3) := by decide +kernel
theorem d_Mo_isNamed_48 : decode c_Mo_isNamed 48 = .ok (.sipush 200, 3) := by decide +kernel
theorem d_Mo_isNamed_51 : decode c_Mo_isNamed 51 = .ok (.iload_n 1, 1) := by decide +kernel
theorem d_Mo_isNamed_52 : decode c_Mo_isNamed 52 = .ok (.imul, 1) := by decide +kernel
theorem d_Mo_isNamed_53 : decode c_Mo_isNamed 53 = .ok (.iload 5, 2) := by decide +kernel
theorem d_Mo_isNamed_55 : decode c_Mo_isNamed 55 = .ok (.iadd, 1) := by decide +kernel
theorem d_Mo_isNamed_56 : decode c_Mo_isNamed 56 = .ok (.iconst 1, 1) := by decide +kernel
theorem d_Mo_isNamed_57 : decode c_Mo_isNamed 57 = .ok (.iadd, 1) := by decide +kernel
theorem d_Mo_isNamed_58 : decode c_Mo_isNamed 58 = .ok (.iaload, 1) := by decide +kernel
theorem d_Mo_isNamed_59 : decode c_Mo_isNamed 59 = .ok (.iload 4, 2) := by decide +kernel
theorem d_Mo_isNamed_61 : decode c_Mo_isNamed 61 = .ok (.if_icmp .ne 7, 3) := by decide +kernel
theorem d_Mo_isNamed_64 : decode c_Mo_isNamed 64 = .ok (.iconst 1, 1) := by decide +kernel
theorem d_Mo_isNamed_65 : decode c_Mo_isNamed 65 = .ok (.goto 4, 3) := by decide +kernel
theorem d_Mo_isNamed_68 : decode c_Mo_isNamed 68 = .ok (.iconst 0, 1) := by decide +kernel
theorem d_Mo_isNamed_69 : decode c_Mo_isNamed 69 = .ok (.istore 6, 2) := by decide +kernel
theorem d_Mo_isNamed_71 : decode c_Mo_isNamed 71 = .ok (.iconst 0, 1) := by decide +kernel
theorem d_Mo_isNamed_72 : decode c_Mo_isNamed 72 = .ok (.istore 8, 2) := by decide +kernel
theorem d_Mo_isNamed_74 : decode c_Mo_isNamed 74 = .ok (.iload 7, 2) := by decide +kernel
theorem d_Mo_isNamed_76 : decode c_Mo_isNamed 76 = .ok (.iconst 5, 1) := by decide +kernel
theorem d_Mo_isNamed_77 : decode c_Mo_isNamed 77 = .ok (.if_icmp .ne 69, 3) := by decide +kernel
theorem d_Mo_isNamed_80 : decode c_Mo_isNamed 80 = .ok (.iload 8, 2) := by decide +kernel
theorem d_Mo_isNamed_82 : decode c_Mo_isNamed 82 = .ok (.aload_n 0, 1) := by decide +kernel
theorem d_Mo_isNamed_83 : decode c_Mo_isNamed 83 = .ok (.getfield 9, 3) := by decide +kernel
theorem d_Mo_isNamed_86 : decode c_Mo_isNamed 86 = .ok (.aload_n 0, 1) := by decide +kernel
theorem d_Mo_isNamed_87 : decode c_Mo_isNamed 87 = .ok (.getfield 13, 3) := by decide +kernel
theorem d_Mo_isNamed_90 : decode c_Mo_isNamed 90 = .ok (.sipush 200, 3) := by decide +kernel
theorem d_Mo_isNamed_93 : decode c_Mo_isNamed 93 = .ok (.iload_n 1, 1) := by decide +kernel
theorem d_Mo_isNamed_94 : decode c_Mo_isNamed 94 = .ok (.imul, 1) := by decide +kernel
theorem d_Mo_isNamed_95 : decode c_Mo_isNamed 95 = .ok (.iload 5, 2) := by decide +kernel
theorem d_Mo_isNamed_97 : decode c_Mo_isNamed 97 = .ok (.iadd, 1) := by decide +kernel
theorem d_Mo_isNamed_98 : decode c_Mo_isNamed 98 = .ok (.iconst 1, 1) := by decide +kernel
theorem d_Mo_isNamed_99 : decode c_Mo_isNamed 99 = .ok (.iadd, 1) := by decide +kernel
theorem d_Mo_isNamed_100 : decode c_Mo_isNamed 100 = .ok (.iaload, 1) := by decide +kernel
theorem d_Mo_isNamed_101 : decode c_Mo_isNamed 101 = .ok (.iaload, 1) := by decide +kernel
theorem d_Mo_isNamed_102 : decode c_Mo_isNamed 102 = .ok (.if_icmp .ge 44, 3) := by decide +kernel
theorem d_Mo_isNamed_105 : decode c_Mo_isNamed 105 = .ok (.iload 6, 2) := by decide +kernel
theorem d_Mo_isNamed_107 : decode c_Mo_isNamed 107 = .ok (.ifCond .ne 26, 3) := by decide +kernel
theorem d_Mo_isNamed_110 : decode c_Mo_isNamed 110 = .ok (.aload_n 0, 1) := by decide +kernel
theorem d_Mo_isNamed_111 : decode c_Mo_isNamed 111 = .ok (.getfield 13, 3) := by decide +kernel
theorem d_Mo_isNamed_114 : decode c_Mo_isNamed 114 = .ok (.sipush 200, 3) := by decide +kernel
theorem d_Mo_isNamed_117 : decode c_Mo_isNamed 117 = .ok (.iload_n 1, 1) := by decide +kernel
theorem d_Mo_isNamed_118 : decode c_Mo_isNamed 118 = .ok (.imul, 1) := by decide +kernel
theorem d_Mo_isNamed_119 : decode c_Mo_isNamed 119 = .ok (.iload 5, 2) := by decide +kernel
theorem d_Mo_isNamed_121 : decode c_Mo_isNamed 121 = .ok (.iadd, 1) := by decide +kernel
theorem d_Mo_isNamed_122 : decode c_Mo_isNamed 122 = .ok (.iconst 2, 1) := by decide +kernel
theorem d_Mo_isNamed_123 : decode c_Mo_isNamed 123 = .ok (.iadd, 1) := by decide +kernel
theorem d_Mo_isNamed_124 : decode c_Mo_isNamed 124 = .ok (.iload 8, 2) := by decide +kernel
theorem d_Mo_isNamed_126 : decode c_Mo_isNamed 126 = .ok (.iadd, 1) := by decide +kernel
theorem d_Mo_isNamed_127 : decode c_Mo_isNamed 127 = .ok (.iaload, 1) := by decide +kernel
theorem d_Mo_isNamed_128 : decode c_Mo_isNamed 128 = .ok (.iload 4, 2) := by decide +kernel
theorem d_Mo_isNamed_130 : decode c_Mo_isNamed 130 = .ok (.if_icmp .ne 7, 3) := by decide +kernel
theorem d_Mo_isNamed_133 : decode c_Mo_isNamed 133 = .ok (.iconst 1, 1) := by decide +kernel
theorem d_Mo_isNamed_134 : decode c_Mo_isNamed 134 = .ok (.goto 4, 3) := by decide +kernel
theorem d_Mo_isNamed_137 : decode c_Mo_isNamed 137 = .ok (.iconst 0, 1) := by decide +kernel
theorem d_Mo_isNamed_138 : decode c_Mo_isNamed 138 = .ok (.istore 6, 2) := by decide +kernel
theorem d_Mo_isNamed_140 : decode c_Mo_isNamed 140 = .ok (.iinc 8 1, 3) := by decide +kernel
theorem d_Mo_isNamed_143 : decode c_Mo_isNamed 143 = .ok (.goto (-69), 3) := by decide +kernel
theorem d_Mo_isNamed_146 : decode c_Mo_isNamed 146 = .ok (.iload 5, 2) := by decide +kernel
theorem d_Mo_isNamed_148 : decode c_Mo_isNamed 148 = .ok (.aload_n 0, 1) := by decide +kernel
theorem d_Mo_isNamed_149 : decode c_Mo_isNamed 149 = .ok (.iload_n 1, 1) := by decide +kernel
theorem d_Mo_isNamed_150 : decode c_Mo_isNamed 150 = .ok (.iload 5, 2) := by decide +kernel
theorem d_Mo_isNamed_152 : decode c_Mo_isNamed 152 = .ok (.invokevirtual 125, 3) := by decide +kernel
theorem d_Mo_isNamed_155 : decode c_Mo_isNamed 155 = .ok (.iadd, 1) := by decide +kernel
theorem d_Mo_isNamed_156 : decode c_Mo_isNamed 156 = .ok (.istore 5, 2) := by decide +kernel
theorem d_Mo_isNamed_158 : decode c_Mo_isNamed 158 = .ok (.goto (-152), 3) := by decide +kernel
theorem d_Mo_isNamed_161 : decode c_Mo_isNamed 161 = .ok (.iload 6, 2) := by decide +kernel
theorem d_Mo_isNamed_163 : decode c_Mo_isNamed 163 = .ok (.ireturn, 1) := by decide +kernel
set_option maxRecDepth 100000 in
set_option maxHeartbeats 16000000 in
/-- isNamed(f9, p0, q9, v9) -/
theorem g_Mo_isNamed (l : Launch) (G : va_G) (k : Nat → ClassId) (h0 : Nat) (s0 : Nat) (f9 : Nat) (p0 : Nat) (q9 : Nat) (v9 : Nat) (n0 : Nat) (nf : Nat) (ma : Nat → Nat) (iv : Nat → Int32) (co : Int64) (tk : Nat → Nat) (wd : Nat → Int32) (hf : f9 < 4) (hq : q9 ≤ 200) (hnf : nf ≤ 4) (hH : HDn (wdF wd f9) tk nf n0 p0 q9) (htk : ∀ g, g < 4 → tk g ≤ 3) : CI l y_Mo_isNamed c_Mo_isNamed 9 .boolean { frames := 1, cells := 0, slots := 0, locals := 23 } [.ref h0, .int (nI f9), .int (nI p0), .int (nI q9), .int (nI v9)] G k s0 [(h0, .inr (8, moL ma iv co)), ((ma 0), .inl (k 0, 4, .inl (fun i => nI (tk i)))), ((ma 1), .inl (k 0, 800, .inl wd))] (fun (r : Int32) (u : Unit) => r = nI (b01 (nmN (wdF wd f9) tk (nI v9) n0 p0)) ∧ True) (fun u => [(h0, .inr (8, moL ma iv co)), ((ma 0), .inl (k 0, 4, .inl (fun i => nI (tk i)))), ((ma 1), .inl (k 0, 800, .inl wd))]) 0 0 := by
  refine met_start (by decide) (Nat.le_of_ble_eq_true rfl) ?_
  intro p e s m below meth c C K hA hsz S ls hl
  generalize va_A [(h0, .inr (8, moL ma iv co)), ((ma 0), .inl (k 0, 4, .inl (fun i => nI (tk i)))), ((ma 1), .inl (k 0, 800, .inl wd))] s0 = A at hA S ⊢
  have hx := C.1
  have hb := C.2.1
  have hl : lv_has ls 9 [(0, .ref h0), (1, .int (nI f9)), (2, .int (nI p0)), (3, .int (nI q9)), (4, .int (nI v9))] := hl
  refine lv_iload_n hx hb d_Mo_isNamed_0 rfl (lv_at hl 2 rfl) ?_
  refine lv_istore (lv' := [(5, .int (nI p0)), (0, .ref h0), (1, .int (nI f9)), (2, .int (nI p0)), (3, .int (nI q9)), (4, .int (nI v9))]) hx hb d_Mo_isNamed_1 hl (by decide) rfl (fun ls hl => ?_)
  refine lv_iconst (v := 0) hx hb d_Mo_isNamed_3 (by decide) ?_
  refine lv_istore (lv' := [(6, .int 0), (5, .int (nI p0)), (0, .ref h0), (1, .int (nI f9)), (2, .int (nI p0)), (3, .int (nI q9)), (4, .int (nI v9))]) hx hb d_Mo_isNamed_4 hl (by decide) rfl (fun ls hl => ?_)
  have lp : ∀ d9, ∀ (n8 : Nat), ∀ (p8 : Nat), ∀ (rt : Nat), (q9 + 1 - p8) < d9 → (HDn (wdF wd f9) tk nf n8 p8 q9) → ((rt = 0 ∧ nmN (wdF wd f9) tk (nI v9) n8 p8 = nmN (wdF wd f9) tk (nI v9) n0 p0) ∨ (rt = 1 ∧ nmN (wdF wd f9) tk (nI v9) n0 p0 = true)) → ∀ (H : Heap) (locs : List Loc), Sw G A s.heap H locs [(h0, .inr (8, moL ma iv co)), ((ma 0), .inl (k 0, 4, .inl (fun i => nI (tk i)))), ((ma 1), .inl (k 0, 800, .inl wd))] → ∀ ls : Array Slot, lv_has ls 9 [(6, .int (nI rt)), (5, .int (nI p8)), (0, .ref h0), (1, .int (nI f9)), (2, .int (nI p0)), (3, .int (nI q9)), (4, .int (nI v9))] → W p l e { frames := 1, cells := 0, slots := 0, locals := 23 } s m [Value.ref h0, Value.int (nI f9), Value.int (nI p0), Value.int (nI q9), Value.int (nI v9)].toArray below meth c H locs 0 0 (MQ below (va_Qi (fun (r : Int32) (u : Unit) => r = nI (b01 (nmN (wdF wd f9) tk (nI v9) n0 p0)) ∧ True) (Po G k A (fun u => [(h0, .inr (8, moL ma iv co)), ((ma 0), .inl (k 0, 4, .inl (fun i => nI (tk i)))), ((ma 1), .inl (k 0, 800, .inl wd))])) A) [Value.ref h0, Value.int (nI f9), Value.int (nI p0), Value.int (nI q9), Value.int (nI v9)].toArray s 0 0 A) (F0 m 6 ls []) := by
    intro d9
    induction d9 with
    | zero => intro n8 p8 rt hm; exact absurd hm (Nat.not_lt_zero _)
    | succ d9 ih_lp =>
      intro n8 p8 rt hm hH8 hrt H locs S ls hl
      have hr1 : rt ≤ 1 := by rcases hrt with q | q; rw [q.1]; exact Nat.zero_le _; rw [q.1]; exact Nat.le_refl _
      have hpq := HDn_le hH8
      refine lv_iload hx hb d_Mo_isNamed_6 (lv_at hl 1 rfl) ?_
      refine lv_iload_n hx hb d_Mo_isNamed_8 rfl (lv_at hl 5 rfl) ?_
      refine z_icmp_ge (a := p8) (b := q9) (tgt := 161) hx hb d_Mo_isNamed_9 (by decide) (by omega) (by omega) (fun hc1 => ?_) (fun hc1 => ?_)
      · refine lv_iload hx hb d_Mo_isNamed_161 (lv_at hl 0 rfl) ?_
        obtain rfl : n8 = 0 := by omega
        exact r_iret C K (bo_nz (b := rt) (by omega)) () ⟨congrArg nI (by rcases hrt with q | q; rw [q.1, ← q.2]; rfl; rw [q.1, q.2]; rfl), trivial⟩ (S.sub [0, 1, 2] (by decide) rfl) d_Mo_isNamed_163 (Nat.le_of_ble_eq_true rfl) (Nat.le_of_ble_eq_true rfl)
      · refine lv_iload hx hb d_Mo_isNamed_12 (lv_at hl 0 rfl) ?_
        refine z_if_ne (a := rt) (tgt := 161) hx hb d_Mo_isNamed_14 (by decide) (by omega) (fun hc2 => ?_) (fun hc2 => ?_)
        · refine lv_iload hx hb d_Mo_isNamed_161 (lv_at hl 0 rfl) ?_
          exact r_iret C K (bo_nz (b := rt) (by omega)) () ⟨congrArg nI (by rcases hrt with q | q; exact absurd q.1 (by omega); rw [q.1, q.2]; rfl), trivial⟩ (S.sub [0, 1, 2] (by decide) rfl) d_Mo_isNamed_163 (Nat.le_of_ble_eq_true rfl) (Nat.le_of_ble_eq_true rfl)
        · obtain ⟨hr0, hrn⟩ := hrt.resolve_right (fun q => by have := q.1; omega)
          obtain ⟨n7, hn7⟩ : ∃ n7, n8 = n7 + 1 := by
            cases n8 with
            | zero => have : p8 = q9 := hH8; omega
            | succ n7 => exact ⟨n7, rfl⟩
          rw [hn7] at hH8 hrn
          have hrn : (nm1 (wdF wd f9) tk (nI v9) p8 || nmN (wdF wd f9) tk (nI v9) n7 (p8 + hdN (wdF wd f9) tk p8)) = nmN (wdF wd f9) tk (nI v9) n0 p0 := hrn
          have hpq2 := HDn_le hH8.2
          have hd1 := hdN_pos (W := (wdF wd f9)) (tk := tk) p8
          have fin9 : ∀ (bb : Bool), (nm1 (wdF wd f9) tk (nI v9) p8 = bb) → ∀ (H : Heap) (locs : List Loc), Sw G A s.heap H locs [(h0, .inr (8, moL ma iv co)), ((ma 0), .inl (k 0, 4, .inl (fun i => nI (tk i)))), ((ma 1), .inl (k 0, 800, .inl wd))] → ∀ ls : Array Slot, lv_has ls 9 [(6, .int (nI (b01 bb))), (5, .int (nI p8)), (0, .ref h0), (1, .int (nI f9)), (2, .int (nI p0)), (3, .int (nI q9)), (4, .int (nI v9))] → W p l e { frames := 1, cells := 0, slots := 0, locals := 23 } s m [Value.ref h0, Value.int (nI f9), Value.int (nI p0), Value.int (nI q9), Value.int (nI v9)].toArray below meth c H locs 0 0 (MQ below (va_Qi (fun (r : Int32) (u : Unit) => r = nI (b01 (nmN (wdF wd f9) tk (nI v9) n0 p0)) ∧ True) (Po G k A (fun u => [(h0, .inr (8, moL ma iv co)), ((ma 0), .inl (k 0, 4, .inl (fun i => nI (tk i)))), ((ma 1), .inl (k 0, 800, .inl wd))])) A) [Value.ref h0, Value.int (nI f9), Value.int (nI p0), Value.int (nI q9), Value.int (nI v9)].toArray s 0 0 A) (F0 m 146 ls []) := by
            intro bb hbb H locs S ls hl
            have hbl := b01_le bb
            rw [hbb] at hrn
            refine lv_iload hx hb d_Mo_isNamed_146 (lv_at hl 1 rfl) ?_
            refine lv_aload_n hx hb d_Mo_isNamed_148 rfl (lv_at hl 2 rfl) ?_
            refine lv_iload_n hx hb d_Mo_isNamed_149 rfl (lv_at hl 3 rfl) ?_
            refine lv_iload hx hb d_Mo_isNamed_150 (lv_at hl 1 rfl) ?_
            refine r_backi (wi := [(h0, .inr (8, moL ma iv co)), ((ma 0), .inl (k 0, 4, .inl (fun i => nI (tk i)))), ((ma 1), .inl (k 0, 800, .inl wd))]) (wr := []) S hA [0, 1, 2] [] rfl rfl (by decide) (by decide) (va_runV (As := [.int (nI f9), .int (nI p8)]) (rest := [.int (nI p8)]) ⟨hx, hb, C.2.2.1, C.2.2.2.1, C.2.2.2.2.1⟩ (g_Mo_headOf l G k h0 _ f9 p8 ma iv co tk wd hf (by omega) (hdO_5 hnf hH8 hq) htk) (k_virt (n := 2) C wc_Mo_headOf rfl rfl wz_Mo wm_Mo_125 wn_Mo_headOf ws_Mo_headOf (by decide +kernel) ⟨(Nat.le_of_ble_eq_true rfl), (Nat.le_of_ble_eq_true rfl)⟩) (pr_nowV K S [0, 1, 2] (by decide) rfl 0 rfl rfl) rfl rfl hl.1 rfl (lv_room (Nat.le_of_ble_eq_true rfl)) d_Mo_isNamed_152 ⟨(Nat.le_of_ble_eq_true rfl), (Nat.le_of_ble_eq_true rfl)⟩) (fun r5 u3 H locs hw4 S => ?_)
            have S : Sw G A s.heap _ _ [(h0, .inr (8, moL ma iv co)), ((ma 0), .inl (k 0, 4, .inl (fun i => nI (tk i)))), ((ma 1), .inl (k 0, 800, .inl wd))] := S
            obtain ⟨hw40, hp6⟩ := hw4
            obtain rfl : r5 = nI (hdN (wdF wd f9) tk p8) := hw40
            refine z_iadd (x := nI p8) (y := nI (hdN (wdF wd f9) tk p8)) (v := nI (p8 + hdN (wdF wd f9) tk p8)) hx hb d_Mo_isNamed_155 (nI_add p8 (hdN (wdF wd f9) tk p8)) ?_
            refine lv_istore (lv' := [(5, .int (nI (p8 + hdN (wdF wd f9) tk p8))), (6, .int (nI (b01 bb))), (0, .ref h0), (1, .int (nI f9)), (2, .int (nI p0)), (3, .int (nI q9)), (4, .int (nI v9))]) hx hb d_Mo_isNamed_156 hl (by decide) rfl (fun ls hl => ?_)
            refine lv_goto (tgt := 6) hx hb d_Mo_isNamed_158 (by decide) ?_
            exact ih_lp n7 (p8 + hdN (wdF wd f9) tk p8) (b01 bb) (by omega) hH8.2 (by cases bb; exact Or.inl ⟨rfl, hrn⟩; exact Or.inr ⟨rfl, hrn.symm⟩) _ _ (S.sub [0, 1, 2] (by decide) rfl) ls (lv_sub hl [1, 0, 2, 3, 4, 5, 6] rfl)
          refine lv_aload_n hx hb d_Mo_isNamed_17 rfl (lv_at hl 2 rfl) ?_
          refine r_get C K S 0 rfl rfl clOk_Mo 2 (by decide) wf_Mo_13 (v := .ref (ma 1)) rfl d_Mo_isNamed_18 ?_
          refine lv_sipush (v := 200) hx hb d_Mo_isNamed_21 (by decide) ?_
          refine lv_iload_n hx hb d_Mo_isNamed_24 rfl (lv_at hl 3 rfl) ?_
          refine z_imul (x := 200) (y := nI f9) (v := nI (200 * f9)) hx hb d_Mo_isNamed_25 (pk_mul 200 f9) ?_
          refine lv_iload hx hb d_Mo_isNamed_26 (lv_at hl 1 rfl) ?_
          refine z_iadd (x := nI (200 * f9)) (y := nI p8) (v := nI (200 * f9 + p8)) hx hb d_Mo_isNamed_28 (nI_add (200 * f9) p8) ?_
          refine r_iald C K S 2 rfl (i := nI (200 * f9 + p8)) (show vp_in (nI (200 * f9 + p8)) _ from vp_in_nI (n := (200 * f9 + p8)) (by omega) (by decide)) (v := wdF wd f9 p8) (by rw [nI_clamp (by omega)]; exact (show wd (200 * f9 + p8) = wd (200 * f9 + p8) from congrArg wd (by omega))) d_Mo_isNamed_29 ?_
          refine lv_istore (lv' := [(7, .int (wdF wd f9 p8)), (6, .int (nI rt)), (5, .int (nI p8)), (0, .ref h0), (1, .int (nI f9)), (2, .int (nI p0)), (3, .int (nI q9)), (4, .int (nI v9))]) hx hb d_Mo_isNamed_30 hl (by decide) rfl (fun ls hl => ?_)
          refine lv_iload hx hb d_Mo_isNamed_32 (lv_at hl 0 rfl) ?_
          refine lv_iconst (v := 1) hx hb d_Mo_isNamed_34 (by decide) ?_
          refine lv_icmp_eq (tgt := 44) hx hb d_Mo_isNamed_35 (by decide) (fun hc7 => ?_) (fun hc7 => ?_)
          · have hp2 := hdO_2 hH8 (Or.inl hc7)
            refine lv_aload_n hx hb d_Mo_isNamed_44 rfl (lv_at hl 3 rfl) ?_
            refine r_get C K S 0 rfl rfl clOk_Mo 2 (by decide) wf_Mo_13 (v := .ref (ma 1)) rfl d_Mo_isNamed_45 ?_
            refine lv_sipush (v := 200) hx hb d_Mo_isNamed_48 (by decide) ?_
            refine lv_iload_n hx hb d_Mo_isNamed_51 rfl (lv_at hl 4 rfl) ?_
            refine z_imul (x := 200) (y := nI f9) (v := nI (200 * f9)) hx hb d_Mo_isNamed_52 (pk_mul 200 f9) ?_
            refine lv_iload hx hb d_Mo_isNamed_53 (lv_at hl 2 rfl) ?_
            refine z_iadd (x := nI (200 * f9)) (y := nI p8) (v := nI (200 * f9 + p8)) hx hb d_Mo_isNamed_55 (nI_add (200 * f9) p8) ?_
            refine lv_iconst (v := 1) hx hb d_Mo_isNamed_56 (by decide) ?_
            refine z_iadd (x := nI (200 * f9 + p8)) (y := 1) (v := nI (200 * f9 + p8 + 1)) hx hb d_Mo_isNamed_57 (nI_add (200 * f9 + p8) 1) ?_
            refine r_iald C K S 2 rfl (i := nI (200 * f9 + p8 + 1)) (show vp_in (nI (200 * f9 + p8 + 1)) _ from vp_in_nI (n := (200 * f9 + p8 + 1)) (by omega) (by decide)) (v := wdF wd f9 (p8 + 1)) (by rw [nI_clamp (by omega)]; exact (show wd (200 * f9 + p8 + 1) = wd (200 * f9 + (p8 + 1)) from congrArg wd (by omega))) d_Mo_isNamed_58 ?_
            refine lv_iload hx hb d_Mo_isNamed_59 (lv_at hl 7 rfl) ?_
            refine lv_icmp_ne (tgt := 68) hx hb d_Mo_isNamed_61 (by decide) (fun hc8 => ?_) (fun hc8 => ?_)
            · refine lv_iconst (v := 0) hx hb d_Mo_isNamed_68 (by decide) ?_
              refine lv_istore (lv' := [(6, .int 0), (7, .int (wdF wd f9 p8)), (5, .int (nI p8)), (0, .ref h0), (1, .int (nI f9)), (2, .int (nI p0)), (3, .int (nI q9)), (4, .int (nI v9))]) hx hb d_Mo_isNamed_69 hl (by decide) rfl (fun ls hl => ?_)
              refine lv_iconst (v := 0) hx hb d_Mo_isNamed_71 (by decide) ?_
              refine lv_istore (lv' := [(8, .int 0), (6, .int 0), (7, .int (wdF wd f9 p8)), (5, .int (nI p8)), (0, .ref h0), (1, .int (nI f9)), (2, .int (nI p0)), (3, .int (nI q9)), (4, .int (nI v9))]) hx hb d_Mo_isNamed_72 hl (by decide) rfl (fun ls hl => ?_)
              refine lv_iload hx hb d_Mo_isNamed_74 (lv_at hl 2 rfl) ?_
              refine lv_iconst (v := 5) hx hb d_Mo_isNamed_76 (by decide) ?_
              refine lv_icmp_ne (tgt := 146) hx hb d_Mo_isNamed_77 (by decide) (fun hc9 => ?_) (fun hc9 => ?_)
              · have hl : lv_has ls 9 [(8, .int 0), (6, .int (nI (b01 false))), (7, .int (wdF wd f9 p8)), (5, .int (nI p8)), (0, .ref h0), (1, .int (nI f9)), (2, .int (nI p0)), (3, .int (nI q9)), (4, .int (nI v9))] := by exact hl
                exact fin9 false ((nm1_13 (Or.inl hc7)).trans (decide_eq_false hc8)) _ _ (S.sub [0, 1, 2] (by decide) rfl) ls (lv_sub hl [1, 3, 4, 5, 6, 7, 8] rfl)
              · exact absurd (hc7.symm.trans hc9) (by decide)
            · refine lv_iconst (v := 1) hx hb d_Mo_isNamed_64 (by decide) ?_
              refine lv_goto (tgt := 69) hx hb d_Mo_isNamed_65 (by decide) ?_
              refine lv_istore (lv' := [(6, .int 1), (7, .int (wdF wd f9 p8)), (5, .int (nI p8)), (0, .ref h0), (1, .int (nI f9)), (2, .int (nI p0)), (3, .int (nI q9)), (4, .int (nI v9))]) hx hb d_Mo_isNamed_69 hl (by decide) rfl (fun ls hl => ?_)
              refine lv_iconst (v := 0) hx hb d_Mo_isNamed_71 (by decide) ?_
              refine lv_istore (lv' := [(8, .int 0), (6, .int 1), (7, .int (wdF wd f9 p8)), (5, .int (nI p8)), (0, .ref h0), (1, .int (nI f9)), (2, .int (nI p0)), (3, .int (nI q9)), (4, .int (nI v9))]) hx hb d_Mo_isNamed_72 hl (by decide) rfl (fun ls hl => ?_)
              refine lv_iload hx hb d_Mo_isNamed_74 (lv_at hl 2 rfl) ?_
              refine lv_iconst (v := 5) hx hb d_Mo_isNamed_76 (by decide) ?_
              refine lv_icmp_ne (tgt := 146) hx hb d_Mo_isNamed_77 (by decide) (fun hc10 => ?_) (fun hc10 => ?_)
              · have hl : lv_has ls 9 [(8, .int 0), (6, .int (nI (b01 true))), (7, .int (wdF wd f9 p8)), (5, .int (nI p8)), (0, .ref h0), (1, .int (nI f9)), (2, .int (nI p0)), (3, .int (nI q9)), (4, .int (nI v9))] := by exact hl
                exact fin9 true ((nm1_13 (Or.inl hc7)).trans (decide_eq_true hc8)) _ _ (S.sub [0, 1, 2] (by decide) rfl) ls (lv_sub hl [1, 3, 4, 5, 6, 7, 8] rfl)
              · exact absurd (hc7.symm.trans hc10) (by decide)
          · refine lv_iload hx hb d_Mo_isNamed_38 (lv_at hl 0 rfl) ?_
            refine lv_iconst (v := 3) hx hb d_Mo_isNamed_40 (by decide) ?_
            refine lv_icmp_ne (tgt := 71) hx hb d_Mo_isNamed_41 (by decide) (fun hc11 => ?_) (fun hc11 => ?_)
            · refine lv_iconst (v := 0) hx hb d_Mo_isNamed_71 (by decide) ?_
              refine lv_istore (lv' := [(8, .int 0), (7, .int (wdF wd f9 p8)), (6, .int (nI rt)), (5, .int (nI p8)), (0, .ref h0), (1, .int (nI f9)), (2, .int (nI p0)), (3, .int (nI q9)), (4, .int (nI v9))]) hx hb d_Mo_isNamed_72 hl (by decide) rfl (fun ls hl => ?_)
              refine lv_iload hx hb d_Mo_isNamed_74 (lv_at hl 1 rfl) ?_
              refine lv_iconst (v := 5) hx hb d_Mo_isNamed_76 (by decide) ?_
              refine lv_icmp_ne (tgt := 146) hx hb d_Mo_isNamed_77 (by decide) (fun hc12 => ?_) (fun hc12 => ?_)
              · have hl : lv_has ls 9 [(8, .int 0), (7, .int (wdF wd f9 p8)), (6, .int (nI (b01 false))), (5, .int (nI p8)), (0, .ref h0), (1, .int (nI f9)), (2, .int (nI p0)), (3, .int (nI q9)), (4, .int (nI v9))] := by rw [hr0] at hl; exact hl
                exact fin9 false (nm1_0 hc7 hc11 hc12) _ _ (S.sub [0, 1, 2] (by decide) rfl) ls (lv_sub hl [2, 3, 4, 5, 6, 7, 8] rfl)
              · have h5 := hc12
                obtain ⟨g6, g9, g7, g8⟩ := hdO_5 hnf hH8 hq h5
                have g5 := htk g9 g8
                have g4 : hdN (wdF wd f9) tk p8 = 2 + tk g9 := hdN_5 h5 g7 g8
                have hl : lv_has ls 9 [(8, .int 0), (7, .int (wdF wd f9 p8)), (6, .int (nI (b01 (nmV (wdF wd f9) (nI v9) p8 0)))), (5, .int (nI p8)), (0, .ref h0), (1, .int (nI f9)), (2, .int (nI p0)), (3, .int (nI q9)), (4, .int (nI v9))] := by rw [hr0] at hl; exact hl
                have lk : ∀ d9, ∀ (k9 : Nat), (tk g9 - k9) < d9 → (k9 ≤ tk g9) → ∀ (H : Heap) (locs : List Loc), Sw G A s.heap H locs [(h0, .inr (8, moL ma iv co)), ((ma 0), .inl (k 0, 4, .inl (fun i => nI (tk i)))), ((ma 1), .inl (k 0, 800, .inl wd))] → ∀ ls : Array Slot, lv_has ls 9 [(8, .int (nI k9)), (7, .int (wdF wd f9 p8)), (6, .int (nI (b01 (nmV (wdF wd f9) (nI v9) p8 k9)))), (5, .int (nI p8)), (0, .ref h0), (1, .int (nI f9)), (2, .int (nI p0)), (3, .int (nI q9)), (4, .int (nI v9))] → W p l e { frames := 1, cells := 0, slots := 0, locals := 23 } s m [Value.ref h0, Value.int (nI f9), Value.int (nI p0), Value.int (nI q9), Value.int (nI v9)].toArray below meth c H locs 0 0 (MQ below (va_Qi (fun (r : Int32) (u : Unit) => r = nI (b01 (nmN (wdF wd f9) tk (nI v9) n0 p0)) ∧ True) (Po G k A (fun u => [(h0, .inr (8, moL ma iv co)), ((ma 0), .inl (k 0, 4, .inl (fun i => nI (tk i)))), ((ma 1), .inl (k 0, 800, .inl wd))])) A) [Value.ref h0, Value.int (nI f9), Value.int (nI p0), Value.int (nI q9), Value.int (nI v9)].toArray s 0 0 A) (F0 m 80 ls []) := by
                  intro d9
                  induction d9 with
                  | zero => intro k9 hm; exact absurd hm (Nat.not_lt_zero _)
                  | succ d9 ih_lk =>
                    intro k9 hm hk H locs S ls hl
                    have hv1 := b01_le (nmV (wdF wd f9) (nI v9) p8 k9)
                    refine lv_iload hx hb d_Mo_isNamed_80 (lv_at hl 0 rfl) ?_
                    refine lv_aload_n hx hb d_Mo_isNamed_82 rfl (lv_at hl 4 rfl) ?_
                    refine r_get C K S 0 rfl rfl clOk_Mo 1 (by decide) wf_Mo_9 (v := .ref (ma 0)) rfl d_Mo_isNamed_83 ?_
                    refine lv_aload_n hx hb d_Mo_isNamed_86 rfl (lv_at hl 4 rfl) ?_
                    refine r_get C K S 0 rfl rfl clOk_Mo 2 (by decide) wf_Mo_13 (v := .ref (ma 1)) rfl d_Mo_isNamed_87 ?_
                    refine lv_sipush (v := 200) hx hb d_Mo_isNamed_90 (by decide) ?_
                    refine lv_iload_n hx hb d_Mo_isNamed_93 rfl (lv_at hl 5 rfl) ?_
                    refine z_imul (x := 200) (y := nI f9) (v := nI (200 * f9)) hx hb d_Mo_isNamed_94 (pk_mul 200 f9) ?_
                    refine lv_iload hx hb d_Mo_isNamed_95 (lv_at hl 3 rfl) ?_
                    refine z_iadd (x := nI (200 * f9)) (y := nI p8) (v := nI (200 * f9 + p8)) hx hb d_Mo_isNamed_97 (nI_add (200 * f9) p8) ?_
                    refine lv_iconst (v := 1) hx hb d_Mo_isNamed_98 (by decide) ?_
                    refine z_iadd (x := nI (200 * f9 + p8)) (y := 1) (v := nI (200 * f9 + p8 + 1)) hx hb d_Mo_isNamed_99 (nI_add (200 * f9 + p8) 1) ?_
                    refine r_iald C K S 2 rfl (i := nI (200 * f9 + p8 + 1)) (show vp_in (nI (200 * f9 + p8 + 1)) _ from vp_in_nI (n := (200 * f9 + p8 + 1)) (by omega) (by decide)) (v := wdF wd f9 (p8 + 1)) (by rw [nI_clamp (by omega)]; exact (show wd (200 * f9 + p8 + 1) = wd (200 * f9 + (p8 + 1)) from congrArg wd (by omega))) d_Mo_isNamed_100 ?_
                    rw [g7]
                    refine r_iald C K S 1 rfl (i := nI g9) (show vp_in (nI g9) _ from vp_in_nI (n := g9) (by omega) (by decide)) (v := nI (tk g9)) (by rw [nI_clamp (by omega)]) d_Mo_isNamed_101 ?_
                    refine z_icmp_ge (a := k9) (b := (tk g9)) (tgt := 146) hx hb d_Mo_isNamed_102 (by decide) (by omega) (by omega) (fun hc13 => ?_) (fun hc13 => ?_)
                    · have hl : lv_has ls 9 [(8, .int (nI k9)), (7, .int (wdF wd f9 p8)), (6, .int (nI (b01 (nmV (wdF wd f9) (nI v9) p8 (tk g9))))), (5, .int (nI p8)), (0, .ref h0), (1, .int (nI f9)), (2, .int (nI p0)), (3, .int (nI q9)), (4, .int (nI v9))] := by rw [← (show k9 = tk g9 by omega)]; exact hl
                      exact fin9 (nmV (wdF wd f9) (nI v9) p8 (tk g9)) (nm1_5 h5 g7 g8) _ _ (S.sub [0, 1, 2] (by decide) rfl) ls (lv_sub hl [2, 3, 4, 5, 6, 7, 8] rfl)
                    · refine lv_iload hx hb d_Mo_isNamed_105 (lv_at hl 2 rfl) ?_
                      refine z_if_ne (a := (b01 (nmV (wdF wd f9) (nI v9) p8 k9))) (tgt := 133) hx hb d_Mo_isNamed_107 (by decide) (by omega) (fun hc14 => ?_) (fun hc14 => ?_)
                      · refine lv_iconst (v := 1) hx hb d_Mo_isNamed_133 (by decide) ?_
                        refine lv_goto (tgt := 138) hx hb d_Mo_isNamed_134 (by decide) ?_
                        refine lv_istore (lv' := [(6, .int 1), (8, .int (nI k9)), (7, .int (wdF wd f9 p8)), (5, .int (nI p8)), (0, .ref h0), (1, .int (nI f9)), (2, .int (nI p0)), (3, .int (nI q9)), (4, .int (nI v9))]) hx hb d_Mo_isNamed_138 hl (by decide) rfl (fun ls hl => ?_)
                        refine lv_iinc (v := nI (k9 + 1)) (lv' := [(8, .int (nI (k9 + 1))), (6, .int 1), (7, .int (wdF wd f9 p8)), (5, .int (nI p8)), (0, .ref h0), (1, .int (nI f9)), (2, .int (nI p0)), (3, .int (nI q9)), (4, .int (nI v9))]) hx hb d_Mo_isNamed_140 hl (k := 1) rfl (show nI k9 + Int32.ofInt 1 = nI (k9 + 1) from (nI_add k9 1).trans (congrArg nI (by omega))) (by decide) rfl (fun ls hl => ?_)
                        refine lv_goto (tgt := 74) hx hb d_Mo_isNamed_143 (by decide) ?_
                        refine lv_iload hx hb d_Mo_isNamed_74 (lv_at hl 2 rfl) ?_
                        refine lv_iconst (v := 5) hx hb d_Mo_isNamed_76 (by decide) ?_
                        refine lv_icmp_ne (tgt := 146) hx hb d_Mo_isNamed_77 (by decide) (fun hq => absurd h5 hq) (fun _ => ?_)
                        have hbq : b01 (nmV (wdF wd f9) (nI v9) p8 (k9 + 1)) = 1 := nmV_1 (by omega)
                        have hl : lv_has ls 9 [(8, .int (nI (k9 + 1))), (6, .int (nI (b01 (nmV (wdF wd f9) (nI v9) p8 (k9 + 1))))), (7, .int (wdF wd f9 p8)), (5, .int (nI p8)), (0, .ref h0), (1, .int (nI f9)), (2, .int (nI p0)), (3, .int (nI q9)), (4, .int (nI v9))] := by rw [hbq]; exact hl
                        exact ih_lk (k9 + 1) (by omega) (by omega) _ _ (S.sub [0, 1, 2] (by decide) rfl) ls (lv_sub hl [0, 2, 1, 3, 4, 5, 6, 7, 8] rfl)
                      · refine lv_aload_n hx hb d_Mo_isNamed_110 rfl (lv_at hl 4 rfl) ?_
                        refine r_get C K S 0 rfl rfl clOk_Mo 2 (by decide) wf_Mo_13 (v := .ref (ma 1)) rfl d_Mo_isNamed_111 ?_
                        refine lv_sipush (v := 200) hx hb d_Mo_isNamed_114 (by decide) ?_
                        refine lv_iload_n hx hb d_Mo_isNamed_117 rfl (lv_at hl 5 rfl) ?_
                        refine z_imul (x := 200) (y := nI f9) (v := nI (200 * f9)) hx hb d_Mo_isNamed_118 (pk_mul 200 f9) ?_
                        refine lv_iload hx hb d_Mo_isNamed_119 (lv_at hl 3 rfl) ?_
                        refine z_iadd (x := nI (200 * f9)) (y := nI p8) (v := nI (200 * f9 + p8)) hx hb d_Mo_isNamed_121 (nI_add (200 * f9) p8) ?_
                        refine lv_iconst (v := 2) hx hb d_Mo_isNamed_122 (by decide) ?_
                        refine z_iadd (x := nI (200 * f9 + p8)) (y := 2) (v := nI (200 * f9 + p8 + 2)) hx hb d_Mo_isNamed_123 (nI_add (200 * f9 + p8) 2) ?_
                        refine lv_iload hx hb d_Mo_isNamed_124 (lv_at hl 0 rfl) ?_
                        refine z_iadd (x := nI (200 * f9 + p8 + 2)) (y := nI k9) (v := nI (200 * f9 + p8 + 2 + k9)) hx hb d_Mo_isNamed_126 (nI_add (200 * f9 + p8 + 2) k9) ?_
                        refine r_iald C K S 2 rfl (i := nI (200 * f9 + p8 + 2 + k9)) (show vp_in (nI (200 * f9 + p8 + 2 + k9)) _ from vp_in_nI (n := (200 * f9 + p8 + 2 + k9)) (by omega) (by decide)) (v := wdF wd f9 (p8 + 2 + k9)) (by rw [nI_clamp (by omega)]; exact (show wd (200 * f9 + p8 + 2 + k9) = wd (200 * f9 + (p8 + 2 + k9)) from congrArg wd (by omega))) d_Mo_isNamed_127 ?_
                        refine lv_iload hx hb d_Mo_isNamed_128 (lv_at hl 8 rfl) ?_
                        refine lv_icmp_ne (tgt := 137) hx hb d_Mo_isNamed_130 (by decide) (fun hc15 => ?_) (fun hc15 => ?_)
                        · refine lv_iconst (v := 0) hx hb d_Mo_isNamed_137 (by decide) ?_
                          refine lv_istore (lv' := [(6, .int 0), (8, .int (nI k9)), (7, .int (wdF wd f9 p8)), (5, .int (nI p8)), (0, .ref h0), (1, .int (nI f9)), (2, .int (nI p0)), (3, .int (nI q9)), (4, .int (nI v9))]) hx hb d_Mo_isNamed_138 hl (by decide) rfl (fun ls hl => ?_)
                          refine lv_iinc (v := nI (k9 + 1)) (lv' := [(8, .int (nI (k9 + 1))), (6, .int 0), (7, .int (wdF wd f9 p8)), (5, .int (nI p8)), (0, .ref h0), (1, .int (nI f9)), (2, .int (nI p0)), (3, .int (nI q9)), (4, .int (nI v9))]) hx hb d_Mo_isNamed_140 hl (k := 1) rfl (show nI k9 + Int32.ofInt 1 = nI (k9 + 1) from (nI_add k9 1).trans (congrArg nI (by omega))) (by decide) rfl (fun ls hl => ?_)
                          refine lv_goto (tgt := 74) hx hb d_Mo_isNamed_143 (by decide) ?_
                          refine lv_iload hx hb d_Mo_isNamed_74 (lv_at hl 2 rfl) ?_
                          refine lv_iconst (v := 5) hx hb d_Mo_isNamed_76 (by decide) ?_
                          refine lv_icmp_ne (tgt := 146) hx hb d_Mo_isNamed_77 (by decide) (fun hq => absurd h5 hq) (fun _ => ?_)
                          have hbq : b01 (nmV (wdF wd f9) (nI v9) p8 (k9 + 1)) = 0 := nmV_3 hc14 hc15
                          have hl : lv_has ls 9 [(8, .int (nI (k9 + 1))), (6, .int (nI (b01 (nmV (wdF wd f9) (nI v9) p8 (k9 + 1))))), (7, .int (wdF wd f9 p8)), (5, .int (nI p8)), (0, .ref h0), (1, .int (nI f9)), (2, .int (nI p0)), (3, .int (nI q9)), (4, .int (nI v9))] := by rw [hbq]; exact hl
                          exact ih_lk (k9 + 1) (by omega) (by omega) _ _ (S.sub [0, 1, 2] (by decide) rfl) ls (lv_sub hl [0, 2, 1, 3, 4, 5, 6, 7, 8] rfl)
                        · refine lv_iconst (v := 1) hx hb d_Mo_isNamed_133 (by decide) ?_
                          refine lv_goto (tgt := 138) hx hb d_Mo_isNamed_134 (by decide) ?_
                          refine lv_istore (lv' := [(6, .int 1), (8, .int (nI k9)), (7, .int (wdF wd f9 p8)), (5, .int (nI p8)), (0, .ref h0), (1, .int (nI f9)), (2, .int (nI p0)), (3, .int (nI q9)), (4, .int (nI v9))]) hx hb d_Mo_isNamed_138 hl (by decide) rfl (fun ls hl => ?_)
                          refine lv_iinc (v := nI (k9 + 1)) (lv' := [(8, .int (nI (k9 + 1))), (6, .int 1), (7, .int (wdF wd f9 p8)), (5, .int (nI p8)), (0, .ref h0), (1, .int (nI f9)), (2, .int (nI p0)), (3, .int (nI q9)), (4, .int (nI v9))]) hx hb d_Mo_isNamed_140 hl (k := 1) rfl (show nI k9 + Int32.ofInt 1 = nI (k9 + 1) from (nI_add k9 1).trans (congrArg nI (by omega))) (by decide) rfl (fun ls hl => ?_)
                          refine lv_goto (tgt := 74) hx hb d_Mo_isNamed_143 (by decide) ?_
                          refine lv_iload hx hb d_Mo_isNamed_74 (lv_at hl 2 rfl) ?_
                          refine lv_iconst (v := 5) hx hb d_Mo_isNamed_76 (by decide) ?_
                          refine lv_icmp_ne (tgt := 146) hx hb d_Mo_isNamed_77 (by decide) (fun hq => absurd h5 hq) (fun _ => ?_)
                          have hbq : b01 (nmV (wdF wd f9) (nI v9) p8 (k9 + 1)) = 1 := nmV_2 hc15
                          have hl : lv_has ls 9 [(8, .int (nI (k9 + 1))), (6, .int (nI (b01 (nmV (wdF wd f9) (nI v9) p8 (k9 + 1))))), (7, .int (wdF wd f9 p8)), (5, .int (nI p8)), (0, .ref h0), (1, .int (nI f9)), (2, .int (nI p0)), (3, .int (nI q9)), (4, .int (nI v9))] := by rw [hbq]; exact hl
                          exact ih_lk (k9 + 1) (by omega) (by omega) _ _ (S.sub [0, 1, 2] (by decide) rfl) ls (lv_sub hl [0, 2, 1, 3, 4, 5, 6, 7, 8] rfl)
                exact lk _ 0 (Nat.lt_succ_self _) (by omega) _ _ (S.sub [0, 1, 2] (by decide) rfl) ls (lv_sub hl [0, 1, 2, 3, 4, 5, 6, 7, 8] rfl)
            · have hp2 := hdO_2 hH8 (Or.inr hc11)
              refine lv_aload_n hx hb d_Mo_isNamed_44 rfl (lv_at hl 3 rfl) ?_
              refine r_get C K S 0 rfl rfl clOk_Mo 2 (by decide) wf_Mo_13 (v := .ref (ma 1)) rfl d_Mo_isNamed_45 ?_
              refine lv_sipush (v := 200) hx hb d_Mo_isNamed_48 (by decide) ?_
              refine lv_iload_n hx hb d_Mo_isNamed_51 rfl (lv_at hl 4 rfl) ?_
              refine z_imul (x := 200) (y := nI f9) (v := nI (200 * f9)) hx hb d_Mo_isNamed_52 (pk_mul 200 f9) ?_
              refine lv_iload hx hb d_Mo_isNamed_53 (lv_at hl 2 rfl) ?_
              refine z_iadd (x := nI (200 * f9)) (y := nI p8) (v := nI (200 * f9 + p8)) hx hb d_Mo_isNamed_55 (nI_add (200 * f9) p8) ?_
              refine lv_iconst (v := 1) hx hb d_Mo_isNamed_56 (by decide) ?_
              refine z_iadd (x := nI (200 * f9 + p8)) (y := 1) (v := nI (200 * f9 + p8 + 1)) hx hb d_Mo_isNamed_57 (nI_add (200 * f9 + p8) 1) ?_
              refine r_iald C K S 2 rfl (i := nI (200 * f9 + p8 + 1)) (show vp_in (nI (200 * f9 + p8 + 1)) _ from vp_in_nI (n := (200 * f9 + p8 + 1)) (by omega) (by decide)) (v := wdF wd f9 (p8 + 1)) (by rw [nI_clamp (by omega)]; exact (show wd (200 * f9 + p8 + 1) = wd (200 * f9 + (p8 + 1)) from congrArg wd (by omega))) d_Mo_isNamed_58 ?_
              refine lv_iload hx hb d_Mo_isNamed_59 (lv_at hl 7 rfl) ?_
              refine lv_icmp_ne (tgt := 68) hx hb d_Mo_isNamed_61 (by decide) (fun hc16 => ?_) (fun hc16 => ?_)
              · refine lv_iconst (v := 0) hx hb d_Mo_isNamed_68 (by decide) ?_
                refine lv_istore (lv' := [(6, .int 0), (7, .int (wdF wd f9 p8)), (5, .int (nI p8)), (0, .ref h0), (1, .int (nI f9)), (2, .int (nI p0)), (3, .int (nI q9)), (4, .int (nI v9))]) hx hb d_Mo_isNamed_69 hl (by decide) rfl (fun ls hl => ?_)
                refine lv_iconst (v := 0) hx hb d_Mo_isNamed_71 (by decide) ?_
                refine lv_istore (lv' := [(8, .int 0), (6, .int 0), (7, .int (wdF wd f9 p8)), (5, .int (nI p8)), (0, .ref h0), (1, .int (nI f9)), (2, .int (nI p0)), (3, .int (nI q9)), (4, .int (nI v9))]) hx hb d_Mo_isNamed_72 hl (by decide) rfl (fun ls hl => ?_)
                refine lv_iload hx hb d_Mo_isNamed_74 (lv_at hl 2 rfl) ?_
                refine lv_iconst (v := 5) hx hb d_Mo_isNamed_76 (by decide) ?_
                refine lv_icmp_ne (tgt := 146) hx hb d_Mo_isNamed_77 (by decide) (fun hc17 => ?_) (fun hc17 => ?_)
                · have hl : lv_has ls 9 [(8, .int 0), (6, .int (nI (b01 false))), (7, .int (wdF wd f9 p8)), (5, .int (nI p8)), (0, .ref h0), (1, .int (nI f9)), (2, .int (nI p0)), (3, .int (nI q9)), (4, .int (nI v9))] := by exact hl
                  exact fin9 false ((nm1_13 (Or.inr hc11)).trans (decide_eq_false hc16)) _ _ (S.sub [0, 1, 2] (by decide) rfl) ls (lv_sub hl [1, 3, 4, 5, 6, 7, 8] rfl)
                · exact absurd (hc11.symm.trans hc17) (by decide)
              · refine lv_iconst (v := 1) hx hb d_Mo_isNamed_64 (by decide) ?_
                refine lv_goto (tgt := 69) hx hb d_Mo_isNamed_65 (by decide) ?_
                refine lv_istore (lv' := [(6, .int 1), (7, .int (wdF wd f9 p8)), (5, .int (nI p8)), (0, .ref h0), (1, .int (nI f9)), (2, .int (nI p0)), (3, .int (nI q9)), (4, .int (nI v9))]) hx hb d_Mo_isNamed_69 hl (by decide) rfl (fun ls hl => ?_)
                refine lv_iconst (v := 0) hx hb d_Mo_isNamed_71 (by decide) ?_
                refine lv_istore (lv' := [(8, .int 0), (6, .int 1), (7, .int (wdF wd f9 p8)), (5, .int (nI p8)), (0, .ref h0), (1, .int (nI f9)), (2, .int (nI p0)), (3, .int (nI q9)), (4, .int (nI v9))]) hx hb d_Mo_isNamed_72 hl (by decide) rfl (fun ls hl => ?_)
                refine lv_iload hx hb d_Mo_isNamed_74 (lv_at hl 2 rfl) ?_
                refine lv_iconst (v := 5) hx hb d_Mo_isNamed_76 (by decide) ?_
                refine lv_icmp_ne (tgt := 146) hx hb d_Mo_isNamed_77 (by decide) (fun hc18 => ?_) (fun hc18 => ?_)
                · have hl : lv_has ls 9 [(8, .int 0), (6, .int (nI (b01 true))), (7, .int (wdF wd f9 p8)), (5, .int (nI p8)), (0, .ref h0), (1, .int (nI f9)), (2, .int (nI p0)), (3, .int (nI q9)), (4, .int (nI v9))] := by exact hl
                  exact fin9 true ((nm1_13 (Or.inr hc11)).trans (decide_eq_true hc16)) _ _ (S.sub [0, 1, 2] (by decide) rfl) ls (lv_sub hl [1, 3, 4, 5, 6, 7, 8] rfl)
                · exact absurd (hc11.symm.trans hc18) (by decide)
  exact lp _ n0 p0 0 (Nat.lt_succ_self _) hH (Or.inl ⟨rfl, rfl⟩) _ _ (S.sub [0, 1, 2] (by decide) rfl) ls (lv_sub hl [0, 1, 2, 3, 4, 5, 6] rfl)
end
