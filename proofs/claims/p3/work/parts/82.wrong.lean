theorem kb_1 {W : Nat → Int32} {a p kn : Nat} {st : Stk} (h : W a = 3 ∨ W a = 6) (hp : p = 1) : kbN W ((a, p, kn) :: st) = kn + 1 := by
  show kn + (if (W a = 3 ∨ W a = 6) ∧ p = 1 then 1 else 0) = kn + 1
  rw [if_pos ⟨h, hp⟩]
theorem kb_0 {W : Nat → Int32} {a p kn : Nat} {st : Stk} (h : ¬ ((W a = 3 ∨ W a = 6) ∧ p = 1)) : kbN W ((a, p, kn) :: st) = kn := by
  show kn + (if (W a = 3 ∨ W a = 6) ∧ p = 1 then 1 else 0) = kn
  rw [if_neg h]; rfl
/-- what the reading says: the wrong place, if there is one -/
def wrR (cnt : Nat) : PR → Option Nat
  | .inl b => some b
  | .inr (a2, _, _) => if a2 = cnt then none else some a2
theorem wl_top {W : Nat → Int32} {tk : Nat → Nat} {nf cnt kn : Nat} {E : Nat → Nat} : ∃ r9 E9, WL W tk nf cnt 0 0 kn [] E r9 E9 ∧ r9 = wrR cnt (prs W tk nf cnt 16 kn 0 0 E) ∧ ∀ a2 n2 E2, prs W tk nf cnt 16 kn 0 0 E = .inr (a2, n2, E2) → E9 = E2 := by
  have h := wl_prs (W := W) (tk := tk) (nf := nf) (cnt := cnt) 16 kn 0 0 [] E rfl (Nat.zero_le _) (Nat.zero_le _)
  cases hp : prs W tk nf cnt 16 kn 0 0 E with
  | inl b =>
    rw [hp] at h
    obtain ⟨E9, h⟩ := h
    exact ⟨some b, E9, h, rfl, fun _ _ _ q => absurd q (by simp)⟩
  | inr x =>
    obtain ⟨a2, n2, E2⟩ := x
    rw [hp] at h
    refine ⟨_, E2, (h.2.2 [] E2 rfl).1 rfl, rfl, fun b2 m2 F2 q => ?_⟩
    injection q with q
    injection q with q1 q
    injection q with q2 q3
theorem d_Mo_knownBehind_0 : decode c_Mo_knownBehind 0 = .ok (.aload_n 0, 1) := by decide +kernel
theorem d_Mo_knownBehind_1 : decode c_Mo_knownBehind 1 = .ok (.getfield 13, 3) := by decide +kernel
theorem d_Mo_knownBehind_4 : decode c_Mo_knownBehind 4 = .ok (.sipush 200, 3) := by decide +kernel
theorem d_Mo_knownBehind_7 : decode c_Mo_knownBehind 7 = .ok (.iload_n 1, 1) := by decide +kernel
theorem d_Mo_knownBehind_8 : decode c_Mo_knownBehind 8 = .ok (.imul, 1) := by decide +kernel
theorem d_Mo_knownBehind_9 : decode c_Mo_knownBehind 9 = .ok (.aload_n 0, 1) := by decide +kernel
theorem d_Mo_knownBehind_10 : decode c_Mo_knownBehind 10 = .ok (.getfield 26, 3) := by decide +kernel
theorem d_Mo_knownBehind_13 : decode c_Mo_knownBehind 13 = .ok (.aload_n 0, 1) := by decide +kernel
theorem d_Mo_knownBehind_14 : decode c_Mo_knownBehind 14 = .ok (.getfield 118, 3) := by decide +kernel
theorem d_Mo_knownBehind_17 : decode c_Mo_knownBehind 17 = .ok (.iconst 1, 1) := by decide +kernel
theorem d_Mo_knownBehind_18 : decode c_Mo_knownBehind 18 = .ok (.isub, 1) := by decide +kernel
theorem d_Mo_knownBehind_19 : decode c_Mo_knownBehind 19 = .ok (.iaload, 1) := by decide +kernel
theorem d_Mo_knownBehind_20 : decode c_Mo_knownBehind 20 = .ok (.iadd, 1) := by decide +kernel
theorem d_Mo_knownBehind_21 : decode c_Mo_knownBehind 21 = .ok (.iaload, 1) := by decide +kernel
theorem d_Mo_knownBehind_22 : decode c_Mo_knownBehind 22 = .ok (.istore_n 2, 1) := by decide +kernel
theorem d_Mo_knownBehind_23 : decode c_Mo_knownBehind 23 = .ok (.iload_n 2, 1) := by decide +kernel
theorem d_Mo_knownBehind_24 : decode c_Mo_knownBehind 24 = .ok (.iconst 3, 1) := by decide +kernel
theorem d_Mo_knownBehind_25 : decode c_Mo_knownBehind 25 = .ok (.if_icmp .eq 9, 3) := by decide +kernel
theorem d_Mo_knownBehind_28 : decode c_Mo_knownBehind 28 = .ok (.iload_n 2, 1) := by decide +kernel
theorem d_Mo_knownBehind_29 : decode c_Mo_knownBehind 29 = .ok (.bipush 6, 2) := by decide +kernel
theorem d_Mo_knownBehind_31 : decode c_Mo_knownBehind 31 = .ok (.if_icmp .ne 22, 3) := by decide +kernel
theorem d_Mo_knownBehind_34 : decode c_Mo_knownBehind 34 = .ok (.aload_n 0, 1) := by decide +kernel
theorem d_Mo_knownBehind_35 : decode c_Mo_knownBehind 35 = .ok (.getfield 29, 3) := by decide +kernel
theorem d_Mo_knownBehind_38 : decode c_Mo_knownBehind 38 = .ok (.aload_n 0, 1) := by decide +kernel
theorem d_Mo_knownBehind_39 : decode c_Mo_knownBehind 39 = .ok (.getfield 118, 3) := by decide +kernel
theorem d_Mo_knownBehind_42 : decode c_Mo_knownBehind 42 = .ok (.iconst 1, 1) := by decide +kernel
theorem d_Mo_knownBehind_43 : decode c_Mo_knownBehind 43 = .ok (.isub, 1) := by decide +kernel
theorem d_Mo_knownBehind_44 : decode c_Mo_knownBehind 44 = .ok (.iaload, 1) := by decide +kernel
theorem d_Mo_knownBehind_45 : decode c_Mo_knownBehind 45 = .ok (.iconst 1, 1) := by decide +kernel
theorem d_Mo_knownBehind_46 : decode c_Mo_knownBehind 46 = .ok (.if_icmp .ne 7, 3) := by decide +kernel
theorem d_Mo_knownBehind_49 : decode c_Mo_knownBehind 49 = .ok (.iconst 1, 1) := by decide +kernel
theorem d_Mo_knownBehind_50 : decode c_Mo_knownBehind 50 = .ok (.goto 4, 3) := by decide +kernel
theorem d_Mo_knownBehind_53 : decode c_Mo_knownBehind 53 = .ok (.iconst 0, 1) := by decide +kernel
theorem d_Mo_knownBehind_54 : decode c_Mo_knownBehind 54 = .ok (.istore_n 3, 1) := by decide +kernel
theorem d_Mo_knownBehind_55 : decode c_Mo_knownBehind 55 = .ok (.aload_n 0, 1) := by decide +kernel
theorem d_Mo_knownBehind_56 : decode c_Mo_knownBehind 56 = .ok (.getfield 32, 3) := by decide +kernel
theorem d_Mo_knownBehind_59 : decode c_Mo_knownBehind 59 = .ok (.aload_n 0, 1) := by decide +kernel
theorem d_Mo_knownBehind_60 : decode c_Mo_knownBehind 60 = .ok (.getfield 118, 3) := by decide +kernel
theorem d_Mo_knownBehind_63 : decode c_Mo_knownBehind 63 = .ok (.iconst 1, 1) := by decide +kernel
theorem d_Mo_knownBehind_64 : decode c_Mo_knownBehind 64 = .ok (.isub, 1) := by decide +kernel
theorem d_Mo_knownBehind_65 : decode c_Mo_knownBehind 65 = .ok (.iaload, 1) := by decide +kernel
theorem d_Mo_knownBehind_66 : decode c_Mo_knownBehind 66 = .ok (.iload_n 3, 1) := by decide +kernel
theorem d_Mo_knownBehind_67 : decode c_Mo_knownBehind 67 = .ok (.ifCond .eq 7, 3) := by decide +kernel
theorem d_Mo_knownBehind_70 : decode c_Mo_knownBehind 70 = .ok (.iconst 1, 1) := by decide +kernel
theorem d_Mo_knownBehind_71 : decode c_Mo_knownBehind 71 = .ok (.goto 4, 3) := by decide +kernel
theorem d_Mo_knownBehind_74 : decode c_Mo_knownBehind 74 = .ok (.iconst 0, 1) := by decide +kernel
theorem d_Mo_knownBehind_75 : decode c_Mo_knownBehind 75 = .ok (.iadd, 1) := by decide +kernel
theorem d_Mo_knownBehind_76 : decode c_Mo_knownBehind 76 = .ok (.ireturn, 1) := by decide +kernel
set_option maxRecDepth 100000 in
set_option maxHeartbeats 16000000 in
/-- knownBehind(f9) -/
theorem g_Mo_knownBehind (l : Launch) (G : va_G) (k : Nat → ClassId) (h0 : Nat) (s0 : Nat) (f9 : Nat) (a9 : Nat) (p9 : Nat) (kn9 : Nat) (rs : Stk) (ma : Nat → Nat) (iv : Nat → Int32) (co : Int64) (wd : Nat → Int32) (OA : Nat → Nat) (OP : Nat → Nat) (OK : Nat → Nat) (hf : f9 < 4) (hst : stO ((a9, p9, kn9) :: rs) OA OP OK) (ha : a9 < 200) (hp : p9 ≤ 200) (hln : rs.length ≤ 18) : CI l y_Mo_knownBehind c_Mo_knownBehind 4 .int { frames := 0, cells := 0, slots := 0, locals := 0 } [.ref h0, .int (nI f9)] G k s0 [(h0, .inr (8, moL ma (va_up iv 2 (nI (rs.length + 1))) co)), ((ma 1), .inl (k 0, 800, .inl wd)), ((ma 4), .inl (k 0, 20, .inl (fun i => nI (OA i)))), ((ma 5), .inl (k 0, 20, .inl (fun i => nI (OP i)))), ((ma 6), .inl (k 0, 20, .inl (fun i => nI (OK i))))] (fun (r : Int32) (u : Unit) => r = nI (kbN (wdF wd f9) ((a9, p9, kn9) :: rs)) ∧ True) (fun u => [(h0, .inr (8, moL ma (va_up iv 2 (nI (rs.length + 1))) co)), ((ma 1), .inl (k 0, 800, .inl wd)), ((ma 4), .inl (k 0, 20, .inl (fun i => nI (OA i)))), ((ma 5), .inl (k 0, 20, .inl (fun i => nI (OP i)))), ((ma 6), .inl (k 0, 20, .inl (fun i => nI (OK i))))]) 0 0 := by
  refine met_start (by decide) (Nat.le_of_ble_eq_true rfl) ?_
  intro p e s m below meth c C K hA hsz S ls hl
  generalize va_A [(h0, .inr (8, moL ma (va_up iv 2 (nI (rs.length + 1))) co)), ((ma 1), .inl (k 0, 800, .inl wd)), ((ma 4), .inl (k 0, 20, .inl (fun i => nI (OA i)))), ((ma 5), .inl (k 0, 20, .inl (fun i => nI (OP i)))), ((ma 6), .inl (k 0, 20, .inl (fun i => nI (OK i))))] s0 = A at hA S ⊢
  have hx := C.1
  have hb := C.2.1
  have hl : lv_has ls 4 [(0, .ref h0), (1, .int (nI f9))] := hl
  obtain ⟨t1, t2, t3, t4⟩ := hst
  refine lv_aload_n hx hb d_Mo_knownBehind_0 rfl (lv_at hl 0 rfl) ?_
  refine r_get C K S 0 rfl rfl clOk_Mo 2 (by decide) wf_Mo_13 (v := .ref (ma 1)) rfl d_Mo_knownBehind_1 ?_
  refine lv_sipush (v := 200) hx hb d_Mo_knownBehind_4 (by decide) ?_
  refine lv_iload_n hx hb d_Mo_knownBehind_7 rfl (lv_at hl 1 rfl) ?_
  refine z_imul (x := 200) (y := nI f9) (v := nI (200 * f9)) hx hb d_Mo_knownBehind_8 (pk_mul 200 f9) ?_
  refine lv_aload_n hx hb d_Mo_knownBehind_9 rfl (lv_at hl 0 rfl) ?_
  refine r_get C K S 0 rfl rfl clOk_Mo 6 (by decide) wf_Mo_26 (v := .ref (ma 4)) rfl d_Mo_knownBehind_10 ?_
  refine lv_aload_n hx hb d_Mo_knownBehind_13 rfl (lv_at hl 0 rfl) ?_
  refine r_get C K S 0 rfl rfl clOk_Mo 9 (by decide) wf_Mo_118 (v := .int (nI (rs.length + 1))) rfl d_Mo_knownBehind_14 ?_
  refine lv_iconst (v := 1) hx hb d_Mo_knownBehind_17 (by decide) ?_
  refine z_isub (x := nI (rs.length + 1)) (y := 1) (v := nI (rs.length + 1 - 1)) hx hb d_Mo_knownBehind_18 (pk_sub (a := (rs.length + 1)) (b := 1) (by omega)) ?_
  refine r_iald C K S 2 rfl (i := nI (rs.length + 1 - 1)) (show vp_in (nI (rs.length + 1 - 1)) _ from vp_in_nI (n := (rs.length + 1 - 1)) (by omega) (by decide)) (v := nI (OA (rs.length + 1 - 1))) (by rw [nI_clamp (by omega)]) d_Mo_knownBehind_19 ?_
  rw [show OA (rs.length + 1 - 1) = a9 from t1]
  refine z_iadd (x := nI (200 * f9)) (y := nI a9) (v := nI (200 * f9 + a9)) hx hb d_Mo_knownBehind_20 (nI_add (200 * f9) a9) ?_
  refine r_iald C K S 1 rfl (i := nI (200 * f9 + a9)) (show vp_in (nI (200 * f9 + a9)) _ from vp_in_nI (n := (200 * f9 + a9)) (by omega) (by decide)) (v := wdF wd f9 a9) (by rw [nI_clamp (by omega)]; exact (show wd (200 * f9 + a9) = wd (200 * f9 + a9) from congrArg wd (by omega))) d_Mo_knownBehind_21 ?_
  refine lv_istore_n (lv' := [(2, .int (wdF wd f9 a9)), (0, .ref h0), (1, .int (nI f9))]) hx hb d_Mo_knownBehind_22 rfl hl (by decide) rfl (fun ls hl => ?_)
  refine lv_iload_n hx hb d_Mo_knownBehind_23 rfl (lv_at hl 0 rfl) ?_
  refine lv_iconst (v := 3) hx hb d_Mo_knownBehind_24 (by decide) ?_
  refine lv_icmp_eq (tgt := 34) hx hb d_Mo_knownBehind_25 (by decide) (fun hc1 => ?_) (fun hc1 => ?_)
  · refine lv_aload_n hx hb d_Mo_knownBehind_34 rfl (lv_at hl 1 rfl) ?_
    refine r_get C K S 0 rfl rfl clOk_Mo 7 (by decide) wf_Mo_29 (v := .ref (ma 5)) rfl d_Mo_knownBehind_35 ?_
    refine lv_aload_n hx hb d_Mo_knownBehind_38 rfl (lv_at hl 1 rfl) ?_
    refine r_get C K S 0 rfl rfl clOk_Mo 9 (by decide) wf_Mo_118 (v := .int (nI (rs.length + 1))) rfl d_Mo_knownBehind_39 ?_
    refine lv_iconst (v := 1) hx hb d_Mo_knownBehind_42 (by decide) ?_
    refine z_isub (x := nI (rs.length + 1)) (y := 1) (v := nI (rs.length + 1 - 1)) hx hb d_Mo_knownBehind_43 (pk_sub (a := (rs.length + 1)) (b := 1) (by omega)) ?_
    refine r_iald C K S 3 rfl (i := nI (rs.length + 1 - 1)) (show vp_in (nI (rs.length + 1 - 1)) _ from vp_in_nI (n := (rs.length + 1 - 1)) (by omega) (by decide)) (v := nI (OP (rs.length + 1 - 1))) (by rw [nI_clamp (by omega)]) d_Mo_knownBehind_44 ?_
    rw [show OP (rs.length + 1 - 1) = p9 from t2]
    refine lv_iconst (v := 1) hx hb d_Mo_knownBehind_45 (by decide) ?_
    refine z_icmp_ne (a := p9) (b := 1) (tgt := 53) hx hb d_Mo_knownBehind_46 (by decide) (by omega) (by omega) (fun hc2 => ?_) (fun hc2 => ?_)
    · refine lv_iconst (v := 0) hx hb d_Mo_knownBehind_53 (by decide) ?_
      refine lv_istore_n (lv' := [(3, .int 0), (2, .int (wdF wd f9 a9)), (0, .ref h0), (1, .int (nI f9))]) hx hb d_Mo_knownBehind_54 rfl hl (by decide) rfl (fun ls hl => ?_)
      refine lv_aload_n hx hb d_Mo_knownBehind_55 rfl (lv_at hl 2 rfl) ?_
      refine r_get C K S 0 rfl rfl clOk_Mo 8 (by decide) wf_Mo_32 (v := .ref (ma 6)) rfl d_Mo_knownBehind_56 ?_
      refine lv_aload_n hx hb d_Mo_knownBehind_59 rfl (lv_at hl 2 rfl) ?_
      refine r_get C K S 0 rfl rfl clOk_Mo 9 (by decide) wf_Mo_118 (v := .int (nI (rs.length + 1))) rfl d_Mo_knownBehind_60 ?_
      refine lv_iconst (v := 1) hx hb d_Mo_knownBehind_63 (by decide) ?_
      refine z_isub (x := nI (rs.length + 1)) (y := 1) (v := nI (rs.length + 1 - 1)) hx hb d_Mo_knownBehind_64 (pk_sub (a := (rs.length + 1)) (b := 1) (by omega)) ?_
      refine r_iald C K S 4 rfl (i := nI (rs.length + 1 - 1)) (show vp_in (nI (rs.length + 1 - 1)) _ from vp_in_nI (n := (rs.length + 1 - 1)) (by omega) (by decide)) (v := nI (OK (rs.length + 1 - 1))) (by rw [nI_clamp (by omega)]) d_Mo_knownBehind_65 ?_
      rw [show OK (rs.length + 1 - 1) = kn9 from t3]
      refine lv_iload_n hx hb d_Mo_knownBehind_66 rfl (lv_at hl 0 rfl) ?_
      refine lv_if_eq (tgt := 74) hx hb d_Mo_knownBehind_67 (by decide) (fun _ => ?_) (fun hq => absurd (by decide) hq)
      refine lv_iconst (v := 0) hx hb d_Mo_knownBehind_74 (by decide) ?_
      refine z_iadd (x := nI kn9) (y := 0) (v := nI kn9) hx hb d_Mo_knownBehind_75 (show _ = nI (kn9) from (nI_add kn9 0).trans (congrArg nI (by omega))) ?_
      exact r_iret C K rfl () ⟨congrArg nI (kb_0 (fun q => hc2 q.2)).symm, trivial⟩ (S.sub [0, 1, 2, 3, 4] (by decide) rfl) d_Mo_knownBehind_76 (Nat.le_of_ble_eq_true rfl) (Nat.le_of_ble_eq_true rfl)
    · refine lv_iconst (v := 1) hx hb d_Mo_knownBehind_49 (by decide) ?_
      refine lv_goto (tgt := 54) hx hb d_Mo_knownBehind_50 (by decide) ?_
      refine lv_istore_n (lv' := [(3, .int 1), (2, .int (wdF wd f9 a9)), (0, .ref h0), (1, .int (nI f9))]) hx hb d_Mo_knownBehind_54 rfl hl (by decide) rfl (fun ls hl => ?_)
      refine lv_aload_n hx hb d_Mo_knownBehind_55 rfl (lv_at hl 2 rfl) ?_
      refine r_get C K S 0 rfl rfl clOk_Mo 8 (by decide) wf_Mo_32 (v := .ref (ma 6)) rfl d_Mo_knownBehind_56 ?_
      refine lv_aload_n hx hb d_Mo_knownBehind_59 rfl (lv_at hl 2 rfl) ?_
      refine r_get C K S 0 rfl rfl clOk_Mo 9 (by decide) wf_Mo_118 (v := .int (nI (rs.length + 1))) rfl d_Mo_knownBehind_60 ?_
      refine lv_iconst (v := 1) hx hb d_Mo_knownBehind_63 (by decide) ?_
      refine z_isub (x := nI (rs.length + 1)) (y := 1) (v := nI (rs.length + 1 - 1)) hx hb d_Mo_knownBehind_64 (pk_sub (a := (rs.length + 1)) (b := 1) (by omega)) ?_
      refine r_iald C K S 4 rfl (i := nI (rs.length + 1 - 1)) (show vp_in (nI (rs.length + 1 - 1)) _ from vp_in_nI (n := (rs.length + 1 - 1)) (by omega) (by decide)) (v := nI (OK (rs.length + 1 - 1))) (by rw [nI_clamp (by omega)]) d_Mo_knownBehind_65 ?_
      rw [show OK (rs.length + 1 - 1) = kn9 from t3]
      refine lv_iload_n hx hb d_Mo_knownBehind_66 rfl (lv_at hl 0 rfl) ?_
      refine lv_if_eq (tgt := 74) hx hb d_Mo_knownBehind_67 (by decide) (fun hq => absurd hq (by decide)) (fun _ => ?_)
      refine lv_iconst (v := 1) hx hb d_Mo_knownBehind_70 (by decide) ?_
      refine lv_goto (tgt := 75) hx hb d_Mo_knownBehind_71 (by decide) ?_
      refine z_iadd (x := nI kn9) (y := 1) (v := nI (kn9 + 1)) hx hb d_Mo_knownBehind_75 (nI_add kn9 1) ?_
      exact r_iret C K rfl () ⟨congrArg nI (kb_1 (Or.inl hc1) hc2).symm, trivial⟩ (S.sub [0, 1, 2, 3, 4] (by decide) rfl) d_Mo_knownBehind_76 (Nat.le_of_ble_eq_true rfl) (Nat.le_of_ble_eq_true rfl)
  · refine lv_iload_n hx hb d_Mo_knownBehind_28 rfl (lv_at hl 0 rfl) ?_
    refine lv_bipush (v := 6) hx hb d_Mo_knownBehind_29 (by decide) ?_
    refine lv_icmp_ne (tgt := 53) hx hb d_Mo_knownBehind_31 (by decide) (fun hc3 => ?_) (fun hc3 => ?_)
    · refine lv_iconst (v := 0) hx hb d_Mo_knownBehind_53 (by decide) ?_
      refine lv_istore_n (lv' := [(3, .int 0), (2, .int (wdF wd f9 a9)), (0, .ref h0), (1, .int (nI f9))]) hx hb d_Mo_knownBehind_54 rfl hl (by decide) rfl (fun ls hl => ?_)
      refine lv_aload_n hx hb d_Mo_knownBehind_55 rfl (lv_at hl 2 rfl) ?_
      refine r_get C K S 0 rfl rfl clOk_Mo 8 (by decide) wf_Mo_32 (v := .ref (ma 6)) rfl d_Mo_knownBehind_56 ?_
      refine lv_aload_n hx hb d_Mo_knownBehind_59 rfl (lv_at hl 2 rfl) ?_
      refine r_get C K S 0 rfl rfl clOk_Mo 9 (by decide) wf_Mo_118 (v := .int (nI (rs.length + 1))) rfl d_Mo_knownBehind_60 ?_
      refine lv_iconst (v := 1) hx hb d_Mo_knownBehind_63 (by decide) ?_
      refine z_isub (x := nI (rs.length + 1)) (y := 1) (v := nI (rs.length + 1 - 1)) hx hb d_Mo_knownBehind_64 (pk_sub (a := (rs.length + 1)) (b := 1) (by omega)) ?_
      refine r_iald C K S 4 rfl (i := nI (rs.length + 1 - 1)) (show vp_in (nI (rs.length + 1 - 1)) _ from vp_in_nI (n := (rs.length + 1 - 1)) (by omega) (by decide)) (v := nI (OK (rs.length + 1 - 1))) (by rw [nI_clamp (by omega)]) d_Mo_knownBehind_65 ?_
      rw [show OK (rs.length + 1 - 1) = kn9 from t3]
      refine lv_iload_n hx hb d_Mo_knownBehind_66 rfl (lv_at hl 0 rfl) ?_
      refine lv_if_eq (tgt := 74) hx hb d_Mo_knownBehind_67 (by decide) (fun _ => ?_) (fun hq => absurd (by decide) hq)
      refine lv_iconst (v := 0) hx hb d_Mo_knownBehind_74 (by decide) ?_
      refine z_iadd (x := nI kn9) (y := 0) (v := nI kn9) hx hb d_Mo_knownBehind_75 (show _ = nI (kn9) from (nI_add kn9 0).trans (congrArg nI (by omega))) ?_
      exact r_iret C K rfl () ⟨congrArg nI (kb_0 (fun q => q.1.elim hc1 hc3)).symm, trivial⟩ (S.sub [0, 1, 2, 3, 4] (by decide) rfl) d_Mo_knownBehind_76 (Nat.le_of_ble_eq_true rfl) (Nat.le_of_ble_eq_true rfl)
    · refine lv_aload_n hx hb d_Mo_knownBehind_34 rfl (lv_at hl 1 rfl) ?_
      refine r_get C K S 0 rfl rfl clOk_Mo 7 (by decide) wf_Mo_29 (v := .ref (ma 5)) rfl d_Mo_knownBehind_35 ?_
      refine lv_aload_n hx hb d_Mo_knownBehind_38 rfl (lv_at hl 1 rfl) ?_
      refine r_get C K S 0 rfl rfl clOk_Mo 9 (by decide) wf_Mo_118 (v := .int (nI (rs.length + 1))) rfl d_Mo_knownBehind_39 ?_
      refine lv_iconst (v := 1) hx hb d_Mo_knownBehind_42 (by decide) ?_
      refine z_isub (x := nI (rs.length + 1)) (y := 1) (v := nI (rs.length + 1 - 1)) hx hb d_Mo_knownBehind_43 (pk_sub (a := (rs.length + 1)) (b := 1) (by omega)) ?_
      refine r_iald C K S 3 rfl (i := nI (rs.length + 1 - 1)) (show vp_in (nI (rs.length + 1 - 1)) _ from vp_in_nI (n := (rs.length + 1 - 1)) (by omega) (by decide)) (v := nI (OP (rs.length + 1 - 1))) (by rw [nI_clamp (by omega)]) d_Mo_knownBehind_44 ?_
      rw [show OP (rs.length + 1 - 1) = p9 from t2]
      refine lv_iconst (v := 1) hx hb d_Mo_knownBehind_45 (by decide) ?_
      refine z_icmp_ne (a := p9) (b := 1) (tgt := 53) hx hb d_Mo_knownBehind_46 (by decide) (by omega) (by omega) (fun hc4 => ?_) (fun hc4 => ?_)
      · refine lv_iconst (v := 0) hx hb d_Mo_knownBehind_53 (by decide) ?_
        refine lv_istore_n (lv' := [(3, .int 0), (2, .int (wdF wd f9 a9)), (0, .ref h0), (1, .int (nI f9))]) hx hb d_Mo_knownBehind_54 rfl hl (by decide) rfl (fun ls hl => ?_)
        refine lv_aload_n hx hb d_Mo_knownBehind_55 rfl (lv_at hl 2 rfl) ?_
        refine r_get C K S 0 rfl rfl clOk_Mo 8 (by decide) wf_Mo_32 (v := .ref (ma 6)) rfl d_Mo_knownBehind_56 ?_
        refine lv_aload_n hx hb d_Mo_knownBehind_59 rfl (lv_at hl 2 rfl) ?_
        refine r_get C K S 0 rfl rfl clOk_Mo 9 (by decide) wf_Mo_118 (v := .int (nI (rs.length + 1))) rfl d_Mo_knownBehind_60 ?_
        refine lv_iconst (v := 1) hx hb d_Mo_knownBehind_63 (by decide) ?_
        refine z_isub (x := nI (rs.length + 1)) (y := 1) (v := nI (rs.length + 1 - 1)) hx hb d_Mo_knownBehind_64 (pk_sub (a := (rs.length + 1)) (b := 1) (by omega)) ?_
        refine r_iald C K S 4 rfl (i := nI (rs.length + 1 - 1)) (show vp_in (nI (rs.length + 1 - 1)) _ from vp_in_nI (n := (rs.length + 1 - 1)) (by omega) (by decide)) (v := nI (OK (rs.length + 1 - 1))) (by rw [nI_clamp (by omega)]) d_Mo_knownBehind_65 ?_
        rw [show OK (rs.length + 1 - 1) = kn9 from t3]
        refine lv_iload_n hx hb d_Mo_knownBehind_66 rfl (lv_at hl 0 rfl) ?_
        refine lv_if_eq (tgt := 74) hx hb d_Mo_knownBehind_67 (by decide) (fun _ => ?_) (fun hq => absurd (by decide) hq)
        refine lv_iconst (v := 0) hx hb d_Mo_knownBehind_74 (by decide) ?_
        refine z_iadd (x := nI kn9) (y := 0) (v := nI kn9) hx hb d_Mo_knownBehind_75 (show _ = nI (kn9) from (nI_add kn9 0).trans (congrArg nI (by omega))) ?_
        exact r_iret C K rfl () ⟨congrArg nI (kb_0 (fun q => hc4 q.2)).symm, trivial⟩ (S.sub [0, 1, 2, 3, 4] (by decide) rfl) d_Mo_knownBehind_76 (Nat.le_of_ble_eq_true rfl) (Nat.le_of_ble_eq_true rfl)
      · refine lv_iconst (v := 1) hx hb d_Mo_knownBehind_49 (by decide) ?_
        refine lv_goto (tgt := 54) hx hb d_Mo_knownBehind_50 (by decide) ?_
        refine lv_istore_n (lv' := [(3, .int 1), (2, .int (wdF wd f9 a9)), (0, .ref h0), (1, .int (nI f9))]) hx hb d_Mo_knownBehind_54 rfl hl (by decide) rfl (fun ls hl => ?_)
        refine lv_aload_n hx hb d_Mo_knownBehind_55 rfl (lv_at hl 2 rfl) ?_
        refine r_get C K S 0 rfl rfl clOk_Mo 8 (by decide) wf_Mo_32 (v := .ref (ma 6)) rfl d_Mo_knownBehind_56 ?_
        refine lv_aload_n hx hb d_Mo_knownBehind_59 rfl (lv_at hl 2 rfl) ?_
        refine r_get C K S 0 rfl rfl clOk_Mo 9 (by decide) wf_Mo_118 (v := .int (nI (rs.length + 1))) rfl d_Mo_knownBehind_60 ?_
        refine lv_iconst (v := 1) hx hb d_Mo_knownBehind_63 (by decide) ?_
        refine z_isub (x := nI (rs.length + 1)) (y := 1) (v := nI (rs.length + 1 - 1)) hx hb d_Mo_knownBehind_64 (pk_sub (a := (rs.length + 1)) (b := 1) (by omega)) ?_
        refine r_iald C K S 4 rfl (i := nI (rs.length + 1 - 1)) (show vp_in (nI (rs.length + 1 - 1)) _ from vp_in_nI (n := (rs.length + 1 - 1)) (by omega) (by decide)) (v := nI (OK (rs.length + 1 - 1))) (by rw [nI_clamp (by omega)]) d_Mo_knownBehind_65 ?_
        rw [show OK (rs.length + 1 - 1) = kn9 from t3]
        refine lv_iload_n hx hb d_Mo_knownBehind_66 rfl (lv_at hl 0 rfl) ?_
        refine lv_if_eq (tgt := 74) hx hb d_Mo_knownBehind_67 (by decide) (fun hq => absurd hq (by decide)) (fun _ => ?_)
        refine lv_iconst (v := 1) hx hb d_Mo_knownBehind_70 (by decide) ?_
        refine lv_goto (tgt := 75) hx hb d_Mo_knownBehind_71 (by decide) ?_
        refine z_iadd (x := nI kn9) (y := 1) (v := nI (kn9 + 1)) hx hb d_Mo_knownBehind_75 (nI_add kn9 1) ?_
        exact r_iret C K rfl () ⟨congrArg nI (kb_1 (Or.inr hc3) hc4).symm, trivial⟩ (S.sub [0, 1, 2, 3, 4] (by decide) rfl) d_Mo_knownBehind_76 (Nat.le_of_ble_eq_true rfl) (Nat.le_of_ble_eq_true rfl)
theorem whV_le {W : Nat → Int32} {cnt kn p b : Nat} (hp : p + 2 ≤ cnt) : ∀ {k : Nat}, whV W cnt kn p k = some b → b ≤ cnt ∧ (∀ j, j < k → p + 2 + j ≤ cnt) ∨ b ≤ cnt
  | 0, h => absurd h (by simp [whV])
  | k + 1, h => by
    right
    rw [whV] at h
    cases h1 : whV W cnt kn p k with
    | some c => rw [h1] at h; injection h with h; subst h; rcases whV_le hp h1 with q | q; exact q.1; exact q
    | none =>
      rw [h1] at h
      have h : (if p + 2 + k = cnt then some cnt else if W (p + 2 + k) < 0 ∨ ¬ W (p + 2 + k) < nI kn then some (p + 2 + k) else none) = some b := h
      have hn := whV_none h1
      have hk : ∀ j, j ≤ k → p + 2 + j ≤ cnt := by
        intro j
        induction j with
        | zero => intro _; omega
        | succ j ih => intro hj; have := ih (by omega); have := (hn j (by omega)).1; omega
      have := hk k (Nat.le_refl _)
      split at h
      · injection h with h; omega
      · split at h
        · injection h with h; omega
        · exact absurd h (by simp)
theorem wh_le {W : Nat → Int32} {tk : Nat → Nat} {nf cnt p kn b : Nat} (h : wh W tk nf cnt p kn = some b) (hp : p < cnt) : b ≤ cnt := by
  unfold wh at h
  split at h
  · injection h with h; omega
  · split at h
    · exact absurd h (by simp)
    · split at h
      · injection h with h; omega
      · split at h
        · split at h
          · injection h with h; omega
          · exact absurd h (by simp)
        · split at h
          · split at h
            · injection h with h; omega
            · exact absurd h (by simp)
          · split at h
            · injection h with h; omega
            · rcases whV_le (by omega) h with q | q; exact q.1; exact q
theorem wh_five {W : Nat → Int32} {tk : Nat → Nat} {nf cnt p kn : Nat} (hnf : nf ≤ 4) (hc : cnt ≤ 200) (h : wh W tk nf cnt p kn = none) (hp : p < cnt) : W p = 5 → p + 1 < 200 ∧ ∃ g, W (p + 1) = nI g ∧ g < 4 := by
  intro h5
  rcases wh_none h with q | ⟨q0, q | q | q⟩
  · rw [h5] at q; exact absurd q (by decide)
  · rw [h5] at q; exact absurd q.1 (by decide)
  · rw [h5] at q; exact absurd q.1 (by decide)
  · have nz : ¬ W (p + 1) < 0 := Int32.not_lt.mpr q.2.1
    exact ⟨by omega, _, (nn_of nz).symm, by have := nn_lt nz (by omega) q.2.2.1; omega⟩
theorem d_Mo_wrong_0 : decode c_Mo_wrong 0 = .ok (.iconst 0, 1) := by decide +kernel
theorem d_Mo_wrong_1 : decode c_Mo_wrong 1 = .ok (.istore_n 2, 1) := by decide +kernel
theorem d_Mo_wrong_2 : decode c_Mo_wrong 2 = .ok (.iconst 0, 1) := by decide +kernel
theorem d_Mo_wrong_3 : decode c_Mo_wrong 3 = .ok (.istore_n 3, 1) := by decide +kernel
theorem d_Mo_wrong_4 : decode c_Mo_wrong 4 = .ok (.aload_n 0, 1) := by decide +kernel
theorem d_Mo_wrong_5 : decode c_Mo_wrong 5 = .ok (.getfield 9, 3) := by decide +kernel
theorem d_Mo_wrong_8 : decode c_Mo_wrong 8 = .ok (.iload_n 1, 1) := by decide +kernel
theorem d_Mo_wrong_9 : decode c_Mo_wrong 9 = .ok (.iaload, 1) := by decide +kernel
theorem d_Mo_wrong_10 : decode c_Mo_wrong 10 = .ok (.istore 4, 2) := by decide +kernel
theorem d_Mo_wrong_12 : decode c_Mo_wrong 12 = .ok (.aload_n 0, 1) := by decide +kernel
theorem d_Mo_wrong_13 : decode c_Mo_wrong 13 = .ok (.iconst 0, 1) := by decide +kernel
theorem d_Mo_wrong_14 : decode c_Mo_wrong 14 = .ok (.putfield 118, 3) := by decide +kernel
theorem d_Mo_wrong_17 : decode c_Mo_wrong 17 = .ok (.iconst 0, 1) := by decide +kernel
theorem d_Mo_wrong_18 : decode c_Mo_wrong 18 = .ok (.istore 5, 2) := by decide +kernel
theorem d_Mo_wrong_20 : decode c_Mo_wrong 20 = .ok (.iload 5, 2) := by decide +kernel
theorem d_Mo_wrong_22 : decode c_Mo_wrong 22 = .ok (.ifCond .ne 126, 3) := by decide +kernel
theorem d_Mo_wrong_25 : decode c_Mo_wrong 25 = .ok (.iload_n 2, 1) := by decide +kernel
theorem d_Mo_wrong_26 : decode c_Mo_wrong 26 = .ok (.aload_n 0, 1) := by decide +kernel
theorem d_Mo_wrong_27 : decode c_Mo_wrong 27 = .ok (.getfield 16, 3) := by decide +kernel
theorem d_Mo_wrong_30 : decode c_Mo_wrong 30 = .ok (.iload_n 1, 1) := by decide +kernel
theorem d_Mo_wrong_31 : decode c_Mo_wrong 31 = .ok (.iaload, 1) := by decide +kernel
theorem d_Mo_wrong_32 : decode c_Mo_wrong 32 = .ok (.if_icmp .ne 5, 3) := by decide +kernel
theorem d_Mo_wrong_35 : decode c_Mo_wrong 35 = .ok (.iload_n 2, 1) := by decide +kernel
theorem d_Mo_wrong_36 : decode c_Mo_wrong 36 = .ok (.ireturn, 1) := by decide +kernel
theorem d_Mo_wrong_37 : decode c_Mo_wrong 37 = .ok (.iload_n 3, 1) := by decide +kernel
theorem d_Mo_wrong_38 : decode c_Mo_wrong 38 = .ok (.bipush 40, 2) := by decide +kernel
theorem d_Mo_wrong_40 : decode c_Mo_wrong 40 = .ok (.if_icmp .eq 12, 3) := by decide +kernel
theorem d_Mo_wrong_43 : decode c_Mo_wrong 43 = .ok (.aload_n 0, 1) := by decide +kernel
theorem d_Mo_wrong_44 : decode c_Mo_wrong 44 = .ok (.getfield 118, 3) := by decide +kernel
theorem d_Mo_wrong_47 : decode c_Mo_wrong 47 = .ok (.bipush 16, 2) := by decide +kernel
theorem d_Mo_wrong_49 : decode c_Mo_wrong 49 = .ok (.if_icmp .ne 5, 3) := by decide +kernel
theorem d_Mo_wrong_52 : decode c_Mo_wrong 52 = .ok (.iload_n 2, 1) := by decide +kernel
theorem d_Mo_wrong_53 : decode c_Mo_wrong 53 = .ok (.ireturn, 1) := by decide +kernel
theorem d_Mo_wrong_54 : decode c_Mo_wrong 54 = .ok (.aload_n 0, 1) := by decide +kernel
theorem d_Mo_wrong_55 : decode c_Mo_wrong 55 = .ok (.iload_n 1, 1) := by decide +kernel
theorem d_Mo_wrong_56 : decode c_Mo_wrong 56 = .ok (.iload_n 2, 1) := by decide +kernel
theorem d_Mo_wrong_57 : decode c_Mo_wrong 57 = .ok (.iload 4, 2) := by decide +kernel
theorem d_Mo_wrong_59 : decode c_Mo_wrong 59 = .ok (.invokevirtual 121, 3) := by decide +kernel
theorem d_Mo_wrong_62 : decode c_Mo_wrong 62 = .ok (.istore 6, 2) := by decide +kernel
theorem d_Mo_wrong_64 : decode c_Mo_wrong 64 = .ok (.iload 6, 2) := by decide +kernel
theorem d_Mo_wrong_66 : decode c_Mo_wrong 66 = .ok (.ifCond .lt 6, 3) := by decide +kernel
theorem d_Mo_wrong_69 : decode c_Mo_wrong 69 = .ok (.iload 6, 2) := by decide +kernel
theorem d_Mo_wrong_71 : decode c_Mo_wrong 71 = .ok (.ireturn, 1) := by decide +kernel
theorem d_Mo_wrong_72 : decode c_Mo_wrong 72 = .ok (.iinc 3 1, 3) := by decide +kernel
theorem d_Mo_wrong_75 : decode c_Mo_wrong 75 = .ok (.aload_n 0, 1) := by decide +kernel
theorem d_Mo_wrong_76 : decode c_Mo_wrong 76 = .ok (.getfield 26, 3) := by decide +kernel
theorem d_Mo_wrong_79 : decode c_Mo_wrong 79 = .ok (.aload_n 0, 1) := by decide +kernel
theorem d_Mo_wrong_80 : decode c_Mo_wrong 80 = .ok (.getfield 118, 3) := by decide +kernel
theorem d_Mo_wrong_83 : decode c_Mo_wrong 83 = .ok (.iload_n 2, 1) := by decide +kernel
theorem d_Mo_wrong_84 : decode c_Mo_wrong 84 = .ok (.iastore, 1) := by decide +kernel
theorem d_Mo_wrong_85 : decode c_Mo_wrong 85 = .ok (.aload_n 0, 1) := by decide +kernel
theorem d_Mo_wrong_86 : decode c_Mo_wrong 86 = .ok (.getfield 29, 3) := by decide +kernel
theorem d_Mo_wrong_89 : decode c_Mo_wrong 89 = .ok (.aload_n 0, 1) := by decide +kernel
theorem d_Mo_wrong_90 : decode c_Mo_wrong 90 = .ok (.getfield 118, 3) := by decide +kernel
theorem d_Mo_wrong_93 : decode c_Mo_wrong 93 = .ok (.iconst 0, 1) := by decide +kernel
theorem d_Mo_wrong_94 : decode c_Mo_wrong 94 = .ok (.iastore, 1) := by decide +kernel
theorem d_Mo_wrong_95 : decode c_Mo_wrong 95 = .ok (.aload_n 0, 1) := by decide +kernel
theorem d_Mo_wrong_96 : decode c_Mo_wrong 96 = .ok (.getfield 32, 3) := by decide +kernel
theorem d_Mo_wrong_99 : decode c_Mo_wrong 99 = .ok (.aload_n 0, 1) := by decide +kernel
theorem d_Mo_wrong_100 : decode c_Mo_wrong 100 = .ok (.getfield 118, 3) := by decide +kernel
theorem d_Mo_wrong_103 : decode c_Mo_wrong 103 = .ok (.iload 4, 2) := by decide +kernel
theorem d_Mo_wrong_105 : decode c_Mo_wrong 105 = .ok (.iastore, 1) := by decide +kernel
theorem d_Mo_wrong_106 : decode c_Mo_wrong 106 = .ok (.aload_n 0, 1) := by decide +kernel
theorem d_Mo_wrong_107 : decode c_Mo_wrong 107 = .ok (.dup, 1) := by decide +kernel
theorem d_Mo_wrong_108 : decode c_Mo_wrong 108 = .ok (.getfield 118, 3) := by decide +kernel
theorem d_Mo_wrong_111 : decode c_Mo_wrong 111 = .ok (.iconst 1, 1) := by decide +kernel
theorem d_Mo_wrong_112 : decode c_Mo_wrong 112 = .ok (.iadd, 1) := by decide +kernel
theorem d_Mo_wrong_113 : decode c_Mo_wrong 113 = .ok (.putfield 118, 3) := by decide +kernel
theorem d_Mo_wrong_116 : decode c_Mo_wrong 116 = .ok (.iload_n 2, 1) := by decide +kernel
theorem d_Mo_wrong_117 : decode c_Mo_wrong 117 = .ok (.aload_n 0, 1) := by decide +kernel
theorem d_Mo_wrong_118 : decode c_Mo_wrong 118 = .ok (.iload_n 1, 1) := by decide +kernel
theorem d_Mo_wrong_119 : decode c_Mo_wrong 119 = .ok (.iload_n 2, 1) := by decide +kernel
theorem d_Mo_wrong_120 : decode c_Mo_wrong 120 = .ok (.invokevirtual 125, 3) := by decide +kernel
theorem d_Mo_wrong_123 : decode c_Mo_wrong 123 = .ok (.iadd, 1) := by decide +kernel
theorem d_Mo_wrong_124 : decode c_Mo_wrong 124 = .ok (.istore_n 2, 1) := by decide +kernel
theorem d_Mo_wrong_125 : decode c_Mo_wrong 125 = .ok (.aload_n 0, 1) := by decide +kernel
theorem d_Mo_wrong_126 : decode c_Mo_wrong 126 = .ok (.iload_n 1, 1) := by decide +kernel
theorem d_Mo_wrong_127 : decode c_Mo_wrong 127 = .ok (.iload_n 2, 1) := by decide +kernel
theorem d_Mo_wrong_128 : decode c_Mo_wrong 128 = .ok (.invokevirtual 129, 3) := by decide +kernel
theorem d_Mo_wrong_131 : decode c_Mo_wrong 131 = .ok (.istore 5, 2) := by decide +kernel
theorem d_Mo_wrong_133 : decode c_Mo_wrong 133 = .ok (.iload 5, 2) := by decide +kernel
theorem d_Mo_wrong_135 : decode c_Mo_wrong 135 = .ok (.ifCond .ne 10, 3) := by decide +kernel
theorem d_Mo_wrong_138 : decode c_Mo_wrong 138 = .ok (.aload_n 0, 1) := by decide +kernel
theorem d_Mo_wrong_139 : decode c_Mo_wrong 139 = .ok (.iload_n 1, 1) := by decide +kernel
theorem d_Mo_wrong_140 : decode c_Mo_wrong 140 = .ok (.invokevirtual 133, 3) := by decide +kernel
theorem d_Mo_wrong_143 : decode c_Mo_wrong 143 = .ok (.istore 4, 2) := by decide +kernel
theorem d_Mo_wrong_145 : decode c_Mo_wrong 145 = .ok (.goto (-125), 3) := by decide +kernel
theorem d_Mo_wrong_148 : decode c_Mo_wrong 148 = .ok (.iload_n 2, 1) := by decide +kernel
theorem d_Mo_wrong_149 : decode c_Mo_wrong 149 = .ok (.aload_n 0, 1) := by decide +kernel
theorem d_Mo_wrong_150 : decode c_Mo_wrong 150 = .ok (.getfield 16, 3) := by decide +kernel
theorem d_Mo_wrong_153 : decode c_Mo_wrong 153 = .ok (.iload_n 1, 1) := by decide +kernel
theorem d_Mo_wrong_154 : decode c_Mo_wrong 154 = .ok (.iaload, 1) := by decide +kernel
theorem d_Mo_wrong_155 : decode c_Mo_wrong 155 = .ok (.if_icmp .ne 7, 3) := by decide +kernel
theorem d_Mo_wrong_158 : decode c_Mo_wrong 158 = .ok (.iconst (-1), 1) := by decide +kernel
theorem d_Mo_wrong_159 : decode c_Mo_wrong 159 = .ok (.goto 4, 3) := by decide +kernel
theorem d_Mo_wrong_162 : decode c_Mo_wrong 162 = .ok (.iload_n 2, 1) := by decide +kernel
theorem d_Mo_wrong_163 : decode c_Mo_wrong 163 = .ok (.ireturn, 1) := by decide +kernel
set_option maxRecDepth 100000 in
set_option maxHeartbeats 16000000 in
/-- wrong(f9) -/
theorem g_Mo_wrong (l : Launch) (G : va_G) (k : Nat → ClassId) (h0 : Nat) (s0 : Nat) (f9 : Nat) (nf : Nat) (ma : Nat → Nat) (iv : Nat → Int32) (co : Int64) (tk : Nat → Nat) (ct : Nat → Nat) (wd : Nat → Int32) (OA : Nat → Nat) (OP : Nat → Nat) (OK : Nat → Nat) (En : Nat → Nat) (hf : f9 < 4) (hct : ct f9 ≤ 200) (hnf : nf ≤ 4) (htk : ∀ g, g < 4 → tk g ≤ 3) : CI l y_Mo_wrong c_Mo_wrong 7 .int { frames := 3, cells := 0, slots := 0, locals := 69 } [.ref h0, .int (nI f9)] G k s0 [(h0, .inr (8, moL ma (va_up iv 0 (nI nf)) co)), ((ma 0), .inl (k 0, 4, .inl (fun i => nI (tk i)))), ((ma 1), .inl (k 0, 800, .inl wd)), ((ma 2), .inl (k 0, 4, .inl (fun i => nI (ct i)))), ((ma 4), .inl (k 0, 20, .inl (fun i => nI (OA i)))), ((ma 5), .inl (k 0, 20, .inl (fun i => nI (OP i)))), ((ma 6), .inl (k 0, 20, .inl (fun i => nI (OK i)))), ((ma 3), .inl (k 0, 800, .inl (fun i => nI (En i))))] (fun (r : Int32) (u : (Nat → Nat → Nat) × Nat) => r = bI (wrR (ct f9) (prs (wdF wd f9) tk nf (ct f9) 16 (tk f9) 0 0 (enF En f9))) ∧ (∀ a2 n2 E2, prs (wdF wd f9) tk nf (ct f9) 16 (tk f9) 0 0 (enF En f9) = .inr (a2, n2, E2) → enF (u.1 3) f9 = E2) ∧ ∀ i, i < 200 * f9 ∨ 200 * f9 + 200 ≤ i → u.1 3 i = En i) (fun u => [(h0, .inr (8, moL ma (va_up (va_up iv 0 (nI nf)) 2 (nI u.2)) co)), ((ma 0), .inl (k 0, 4, .inl (fun i => nI (tk i)))), ((ma 1), .inl (k 0, 800, .inl wd)), ((ma 2), .inl (k 0, 4, .inl (fun i => nI (ct i)))), ((ma 4), .inl (k 0, 20, .inl (fun i => nI (u.1 0 i)))), ((ma 5), .inl (k 0, 20, .inl (fun i => nI (u.1 1 i)))), ((ma 6), .inl (k 0, 20, .inl (fun i => nI (u.1 2 i)))), ((ma 3), .inl (k 0, 800, .inl (fun i => nI (u.1 3 i))))]) 0 0 := by
  refine met_start (by decide) (Nat.le_of_ble_eq_true rfl) ?_
  intro p e s m below meth c C K hA hsz S ls hl
  generalize va_A [(h0, .inr (8, moL ma (va_up iv 0 (nI nf)) co)), ((ma 0), .inl (k 0, 4, .inl (fun i => nI (tk i)))), ((ma 1), .inl (k 0, 800, .inl wd)), ((ma 2), .inl (k 0, 4, .inl (fun i => nI (ct i)))), ((ma 4), .inl (k 0, 20, .inl (fun i => nI (OA i)))), ((ma 5), .inl (k 0, 20, .inl (fun i => nI (OP i)))), ((ma 6), .inl (k 0, 20, .inl (fun i => nI (OK i)))), ((ma 3), .inl (k 0, 800, .inl (fun i => nI (En i))))] s0 = A at hA S ⊢
  have hx := C.1
  have hb := C.2.1
  have hl : lv_has ls 7 [(0, .ref h0), (1, .int (nI f9))] := hl
  obtain ⟨r9, E9, hWL, hr9, hE9⟩ := wl_top (W := (wdF wd f9)) (tk := tk) (nf := nf) (cnt := ct f9) (kn := tk f9) (E := enF En f9)
  refine lv_iconst (v := 0) hx hb d_Mo_wrong_0 (by decide) ?_
  refine lv_istore_n (lv' := [(2, .int 0), (0, .ref h0), (1, .int (nI f9))]) hx hb d_Mo_wrong_1 rfl hl (by decide) rfl (fun ls hl => ?_)
  refine lv_iconst (v := 0) hx hb d_Mo_wrong_2 (by decide) ?_
  refine lv_istore_n (lv' := [(3, .int 0), (2, .int 0), (0, .ref h0), (1, .int (nI f9))]) hx hb d_Mo_wrong_3 rfl hl (by decide) rfl (fun ls hl => ?_)
  refine lv_aload_n hx hb d_Mo_wrong_4 rfl (lv_at hl 2 rfl) ?_
  refine r_get C K S 0 rfl rfl clOk_Mo 1 (by decide) wf_Mo_9 (v := .ref (ma 0)) rfl d_Mo_wrong_5 ?_
  refine lv_iload_n hx hb d_Mo_wrong_8 rfl (lv_at hl 3 rfl) ?_
  refine r_iald C K S 1 rfl (i := nI f9) (show vp_in (nI f9) _ from vp_in_nI (n := f9) (by omega) (by decide)) (v := nI (tk f9)) (by rw [nI_clamp (by omega)]) d_Mo_wrong_9 ?_
  refine lv_istore (lv' := [(4, .int (nI (tk f9))), (3, .int 0), (2, .int 0), (0, .ref h0), (1, .int (nI f9))]) hx hb d_Mo_wrong_10 hl (by decide) rfl (fun ls hl => ?_)
  refine lv_aload_n hx hb d_Mo_wrong_12 rfl (lv_at hl 3 rfl) ?_
  refine lv_iconst (v := 0) hx hb d_Mo_wrong_13 (by decide) ?_
  refine r_put C K S 0 rfl rfl clOk_Mo 9 (by decide) wf_Mo_118 rfl (ty := .int) (v := .int 0) (by decide +kernel) rfl rfl (Nat.le_of_ble_eq_true rfl) (fs' := moL ma (va_up (va_up iv 0 (nI nf)) 2 0) co) (ws' := [(h0, .inr (8, moL ma (va_up (va_up iv 0 (nI nf)) 2 0) co)), ((ma 0), .inl (k 0, 4, .inl (fun i => nI (tk i)))), ((ma 1), .inl (k 0, 800, .inl wd)), ((ma 2), .inl (k 0, 4, .inl (fun i => nI (ct i)))), ((ma 4), .inl (k 0, 20, .inl (fun i => nI (OA i)))), ((ma 5), .inl (k 0, 20, .inl (fun i => nI (OP i)))), ((ma 6), .inl (k 0, 20, .inl (fun i => nI (OK i)))), ((ma 3), .inl (k 0, 800, .inl (fun i => nI (En i))))]) rfl rfl d_Mo_wrong_14 (fun H locs S => ?_)
  refine lv_iconst (v := 0) hx hb d_Mo_wrong_17 (by decide) ?_
  refine lv_istore (lv' := [(5, .int 0), (4, .int (nI (tk f9))), (3, .int 0), (2, .int 0), (0, .ref h0), (1, .int (nI f9))]) hx hb d_Mo_wrong_18 hl (by decide) rfl (fun ls hl => ?_)
  have key : WLc (wdF wd f9) tk nf (ct f9) (fun (at9 nodes kn : Nat) (st : Stk) (E : Nat → Nat) (r8 : Option Nat) (E8 : Nat → Nat) => r8 = r9 ∧ E8 = E9 → nodes ≤ 40 → ∀ OA OP OK En9 : Nat → Nat, enF En9 f9 = E → stO st OA OP OK → stB nodes st → (∀ i, i < 200 * f9 ∨ 200 * f9 + 200 ≤ i → En9 i = En i) → ∀ (H : Heap) (locs : List Loc), Sw G A s.heap H locs [(h0, .inr (8, moL ma (va_up (va_up iv 0 (nI nf)) 2 (nI st.length)) co)), ((ma 0), .inl (k 0, 4, .inl (fun i => nI (tk i)))), ((ma 1), .inl (k 0, 800, .inl wd)), ((ma 2), .inl (k 0, 4, .inl (fun i => nI (ct i)))), ((ma 4), .inl (k 0, 20, .inl (fun i => nI (OA i)))), ((ma 5), .inl (k 0, 20, .inl (fun i => nI (OP i)))), ((ma 6), .inl (k 0, 20, .inl (fun i => nI (OK i)))), ((ma 3), .inl (k 0, 800, .inl (fun i => nI (En9 i))))] → ∀ ls : Array Slot, lv_has ls 7 [(5, .int 0), (4, .int (nI kn)), (3, .int (nI nodes)), (2, .int (nI at9)), (1, .int (nI f9)), (0, .ref h0)] → W p l e { frames := 3, cells := 0, slots := 0, locals := 69 } s m [Value.ref h0, Value.int (nI f9)].toArray below meth c H locs 0 0 (MQ below (va_Qi (fun (r : Int32) (u : (Nat → Nat → Nat) × Nat) => r = bI (wrR (ct f9) (prs (wdF wd f9) tk nf (ct f9) 16 (tk f9) 0 0 (enF En f9))) ∧ (∀ a2 n2 E2, prs (wdF wd f9) tk nf (ct f9) 16 (tk f9) 0 0 (enF En f9) = .inr (a2, n2, E2) → enF (u.1 3) f9 = E2) ∧ ∀ i, i < 200 * f9 ∨ 200 * f9 + 200 ≤ i → u.1 3 i = En i) (Po G k A (fun u => [(h0, .inr (8, moL ma (va_up (va_up iv 0 (nI nf)) 2 (nI u.2)) co)), ((ma 0), .inl (k 0, 4, .inl (fun i => nI (tk i)))), ((ma 1), .inl (k 0, 800, .inl wd)), ((ma 2), .inl (k 0, 4, .inl (fun i => nI (ct i)))), ((ma 4), .inl (k 0, 20, .inl (fun i => nI (u.1 0 i)))), ((ma 5), .inl (k 0, 20, .inl (fun i => nI (u.1 1 i)))), ((ma 6), .inl (k 0, 20, .inl (fun i => nI (u.1 2 i)))), ((ma 3), .inl (k 0, 800, .inl (fun i => nI (u.1 3 i))))])) A) [Value.ref h0, Value.int (nI f9)].toArray s 0 0 A) (F0 m 20 ls [])) := by
    refine ⟨?_, ?_, ?_, ?_⟩
    · intro at9 nodes kn st E hac hstop hrr hno OA OP OK En9 hEn hst hsB hou H locs S ls hl
      refine lv_iload hx hb d_Mo_wrong_20 (lv_at hl 0 rfl) ?_
      refine lv_if_ne (tgt := 148) hx hb d_Mo_wrong_22 (by decide) (fun hq => absurd (by decide) hq) (fun _ => ?_)
      refine lv_iload_n hx hb d_Mo_wrong_25 rfl (lv_at hl 3 rfl) ?_
      refine lv_aload_n hx hb d_Mo_wrong_26 rfl (lv_at hl 5 rfl) ?_
      refine r_get C K S 0 rfl rfl clOk_Mo 3 (by decide) wf_Mo_16 (v := .ref (ma 2)) rfl d_Mo_wrong_27 ?_
      refine lv_iload_n hx hb d_Mo_wrong_30 rfl (lv_at hl 4 rfl) ?_
      refine r_iald C K S 3 rfl (i := nI f9) (show vp_in (nI f9) _ from vp_in_nI (n := f9) (by omega) (by decide)) (v := nI (ct f9)) (by rw [nI_clamp (by omega)]) d_Mo_wrong_31 ?_
      refine z_icmp_ne (a := at9) (b := (ct f9)) (tgt := 37) hx hb d_Mo_wrong_32 (by decide) (by omega) (by omega) (fun hc1 => ?_) (fun hc1 => ?_)
      · refine lv_iload_n hx hb d_Mo_wrong_37 rfl (lv_at hl 2 rfl) ?_
        refine lv_bipush (v := 40) hx hb d_Mo_wrong_38 (by decide) ?_
        refine z_icmp_eq (a := nodes) (b := 40) (tgt := 52) hx hb d_Mo_wrong_40 (by decide) (by omega) (by omega) (fun hc2 => ?_) (fun hc2 => ?_)
        · refine lv_iload_n hx hb d_Mo_wrong_52 rfl (lv_at hl 3 rfl) ?_
          exact r_iret C K rfl (uz [OA, OP, OK, En9], st.length) ⟨by rw [← hr9]; exact congrArg bI hrr.1, fun a2 n2 E2 q => (hEn.trans hrr.2).trans (hE9 a2 n2 E2 q), hou⟩ (S.sub [0, 1, 2, 3, 4, 5, 6, 7] (by decide) rfl) d_Mo_wrong_53 (Nat.le_of_ble_eq_true rfl) (Nat.le_of_ble_eq_true rfl)
        · refine lv_aload_n hx hb d_Mo_wrong_43 rfl (lv_at hl 5 rfl) ?_
          refine r_get C K S 0 rfl rfl clOk_Mo 9 (by decide) wf_Mo_118 (v := .int (nI st.length)) rfl d_Mo_wrong_44 ?_
          refine lv_bipush (v := 16) hx hb d_Mo_wrong_47 (by decide) ?_
          refine z_icmp_ne (a := st.length) (b := 16) (tgt := 54) hx hb d_Mo_wrong_49 (by decide) (by omega) (by omega) (fun hc3 => ?_) (fun hc3 => ?_)
          · exact absurd hstop (by omega)
          · refine lv_iload_n hx hb d_Mo_wrong_52 rfl (lv_at hl 3 rfl) ?_
            exact r_iret C K rfl (uz [OA, OP, OK, En9], st.length) ⟨by rw [← hr9]; exact congrArg bI hrr.1, fun a2 n2 E2 q => (hEn.trans hrr.2).trans (hE9 a2 n2 E2 q), hou⟩ (S.sub [0, 1, 2, 3, 4, 5, 6, 7] (by decide) rfl) d_Mo_wrong_53 (Nat.le_of_ble_eq_true rfl) (Nat.le_of_ble_eq_true rfl)
      · refine lv_iload_n hx hb d_Mo_wrong_35 rfl (lv_at hl 3 rfl) ?_
        exact r_iret C K rfl (uz [OA, OP, OK, En9], st.length) ⟨by rw [← hr9]; exact congrArg bI hrr.1, fun a2 n2 E2 q => (hEn.trans hrr.2).trans (hE9 a2 n2 E2 q), hou⟩ (S.sub [0, 1, 2, 3, 4, 5, 6, 7] (by decide) rfl) d_Mo_wrong_36 (Nat.le_of_ble_eq_true rfl) (Nat.le_of_ble_eq_true rfl)
    · intro at9 nodes kn st E b9 hac hnd hsl hwh hrr hno OA OP OK En9 hEn hst hsB hou H locs S ls hl
      refine lv_iload hx hb d_Mo_wrong_20 (lv_at hl 0 rfl) ?_
      refine lv_if_ne (tgt := 148) hx hb d_Mo_wrong_22 (by decide) (fun hq => absurd (by decide) hq) (fun _ => ?_)
      refine lv_iload_n hx hb d_Mo_wrong_25 rfl (lv_at hl 3 rfl) ?_
      refine lv_aload_n hx hb d_Mo_wrong_26 rfl (lv_at hl 5 rfl) ?_
      refine r_get C K S 0 rfl rfl clOk_Mo 3 (by decide) wf_Mo_16 (v := .ref (ma 2)) rfl d_Mo_wrong_27 ?_
      refine lv_iload_n hx hb d_Mo_wrong_30 rfl (lv_at hl 4 rfl) ?_
      refine r_iald C K S 3 rfl (i := nI f9) (show vp_in (nI f9) _ from vp_in_nI (n := f9) (by omega) (by decide)) (v := nI (ct f9)) (by rw [nI_clamp (by omega)]) d_Mo_wrong_31 ?_
      refine z_icmp_ne (a := at9) (b := (ct f9)) (tgt := 37) hx hb d_Mo_wrong_32 (by decide) (by omega) (by omega) (fun hc4 => ?_) (fun hc4 => False.elim (by omega))
      refine lv_iload_n hx hb d_Mo_wrong_37 rfl (lv_at hl 2 rfl) ?_
      refine lv_bipush (v := 40) hx hb d_Mo_wrong_38 (by decide) ?_
      refine z_icmp_eq (a := nodes) (b := 40) (tgt := 52) hx hb d_Mo_wrong_40 (by decide) (by omega) (by omega) (fun hc5 => False.elim (by omega)) (fun hc5 => ?_)
      refine lv_aload_n hx hb d_Mo_wrong_43 rfl (lv_at hl 5 rfl) ?_
      refine r_get C K S 0 rfl rfl clOk_Mo 9 (by decide) wf_Mo_118 (v := .int (nI st.length)) rfl d_Mo_wrong_44 ?_
      refine lv_bipush (v := 16) hx hb d_Mo_wrong_47 (by decide) ?_
      refine z_icmp_ne (a := st.length) (b := 16) (tgt := 54) hx hb d_Mo_wrong_49 (by decide) (by omega) (by omega) (fun hc6 => ?_) (fun hc6 => False.elim (by omega))
      refine lv_aload_n hx hb d_Mo_wrong_54 rfl (lv_at hl 5 rfl) ?_
      refine lv_iload_n hx hb d_Mo_wrong_55 rfl (lv_at hl 4 rfl) ?_
      refine lv_iload_n hx hb d_Mo_wrong_56 rfl (lv_at hl 3 rfl) ?_
      refine lv_iload hx hb d_Mo_wrong_57 (lv_at hl 1 rfl) ?_
      refine r_backi (wi := [(h0, .inr (8, moL ma (va_up (va_up iv 2 (nI st.length)) 0 (nI nf)) co)), ((ma 0), .inl (k 0, 4, .inl (fun i => nI (tk i)))), ((ma 1), .inl (k 0, 800, .inl wd)), ((ma 2), .inl (k 0, 4, .inl (fun i => nI (ct i))))]) (wr := [((ma 4), .inl (k 0, 20, .inl (fun i => nI (OA i)))), ((ma 5), .inl (k 0, 20, .inl (fun i => nI (OP i)))), ((ma 6), .inl (k 0, 20, .inl (fun i => nI (OK i)))), ((ma 3), .inl (k 0, 800, .inl (fun i => nI (En9 i))))]) S hA [0, 1, 2, 3] [4, 5, 6, 7] rfl rfl (by decide) (by decide) (va_runV (As := [.int (nI f9), .int (nI at9), .int (nI kn)]) (rest := []) ⟨hx, hb, C.2.2.1, C.2.2.2.1, C.2.2.2.2.1⟩ (g_Mo_wrongHead l G k h0 _ f9 at9 kn nf ma (va_up iv 2 (nI st.length)) co tk ct wd hf hac hct hnf htk) (k_virt (n := 3) C wc_Mo_wrongHead rfl rfl wz_Mo wm_Mo_121 wn_Mo_wrongHead ws_Mo_wrongHead (by decide +kernel) ⟨(Nat.le_of_ble_eq_true rfl), (Nat.le_of_ble_eq_true rfl)⟩) (pr_nowV K S [0, 1, 2, 3] (by decide) rfl 0 rfl rfl) rfl rfl hl.1 rfl (lv_room (Nat.le_of_ble_eq_true rfl)) d_Mo_wrong_59 ⟨(Nat.le_of_ble_eq_true rfl), (Nat.le_of_ble_eq_true rfl)⟩) (fun r9 u7 H locs hw8 S => ?_)
      have S : Sw G A s.heap _ _ [((ma 4), .inl (k 0, 20, .inl (fun i => nI (OA i)))), ((ma 5), .inl (k 0, 20, .inl (fun i => nI (OP i)))), ((ma 6), .inl (k 0, 20, .inl (fun i => nI (OK i)))), ((ma 3), .inl (k 0, 800, .inl (fun i => nI (En9 i)))), (h0, .inr (8, moL ma (va_up (va_up iv 2 (nI st.length)) 0 (nI nf)) co)), ((ma 0), .inl (k 0, 4, .inl (fun i => nI (tk i)))), ((ma 1), .inl (k 0, 800, .inl wd)), ((ma 2), .inl (k 0, 4, .inl (fun i => nI (ct i))))] := S
      obtain ⟨hw80, hp10⟩ := hw8
      obtain rfl : r9 = bI (wh (wdF wd f9) tk nf (ct f9) at9 kn) := hw80
      rw [hwh]
      refine lv_istore (lv' := [(6, .int (nI b9)), (5, .int 0), (4, .int (nI kn)), (3, .int (nI nodes)), (2, .int (nI at9)), (1, .int (nI f9)), (0, .ref h0)]) hx hb d_Mo_wrong_62 hl (by decide) rfl (fun ls hl => ?_)
      refine lv_iload hx hb d_Mo_wrong_64 (lv_at hl 0 rfl) ?_
      have hb9 : b9 ≤ ct f9 := wh_le hwh hac
      refine z_if_lt (a := b9) (tgt := 72) hx hb d_Mo_wrong_66 (by decide) (by omega) ?_
      refine lv_iload hx hb d_Mo_wrong_69 (lv_at hl 0 rfl) ?_
      exact r_iret C K rfl (uz [OA, OP, OK, En9], st.length) ⟨by rw [← hr9]; exact congrArg bI hrr.1, fun a2 n2 E2 q => (hEn.trans hrr.2).trans (hE9 a2 n2 E2 q), hou⟩ (S.sub [4, 5, 6, 7, 0, 1, 2, 3] (by decide) rfl) d_Mo_wrong_71 (Nat.le_of_ble_eq_true rfl) (Nat.le_of_ble_eq_true rfl)
    · intro at9 nodes kn st E E2 hac hnd hsl hwh hclo hrr hno OA OP OK En9 hEn hst hsB hou H locs S ls hl
      have hhd := wh_hd hwh hac
      refine lv_iload hx hb d_Mo_wrong_20 (lv_at hl 0 rfl) ?_
      refine lv_if_ne (tgt := 148) hx hb d_Mo_wrong_22 (by decide) (fun hq => absurd (by decide) hq) (fun _ => ?_)
      refine lv_iload_n hx hb d_Mo_wrong_25 rfl (lv_at hl 3 rfl) ?_
      refine lv_aload_n hx hb d_Mo_wrong_26 rfl (lv_at hl 5 rfl) ?_
      refine r_get C K S 0 rfl rfl clOk_Mo 3 (by decide) wf_Mo_16 (v := .ref (ma 2)) rfl d_Mo_wrong_27 ?_
      refine lv_iload_n hx hb d_Mo_wrong_30 rfl (lv_at hl 4 rfl) ?_
      refine r_iald C K S 3 rfl (i := nI f9) (show vp_in (nI f9) _ from vp_in_nI (n := f9) (by omega) (by decide)) (v := nI (ct f9)) (by rw [nI_clamp (by omega)]) d_Mo_wrong_31 ?_
      refine z_icmp_ne (a := at9) (b := (ct f9)) (tgt := 37) hx hb d_Mo_wrong_32 (by decide) (by omega) (by omega) (fun hc11 => ?_) (fun hc11 => False.elim (by omega))
      refine lv_iload_n hx hb d_Mo_wrong_37 rfl (lv_at hl 2 rfl) ?_
      refine lv_bipush (v := 40) hx hb d_Mo_wrong_38 (by decide) ?_
      refine z_icmp_eq (a := nodes) (b := 40) (tgt := 52) hx hb d_Mo_wrong_40 (by decide) (by omega) (by omega) (fun hc12 => False.elim (by omega)) (fun hc12 => ?_)
      refine lv_aload_n hx hb d_Mo_wrong_43 rfl (lv_at hl 5 rfl) ?_
      refine r_get C K S 0 rfl rfl clOk_Mo 9 (by decide) wf_Mo_118 (v := .int (nI st.length)) rfl d_Mo_wrong_44 ?_
      refine lv_bipush (v := 16) hx hb d_Mo_wrong_47 (by decide) ?_
      refine z_icmp_ne (a := st.length) (b := 16) (tgt := 54) hx hb d_Mo_wrong_49 (by decide) (by omega) (by omega) (fun hc13 => ?_) (fun hc13 => False.elim (by omega))
      refine lv_aload_n hx hb d_Mo_wrong_54 rfl (lv_at hl 5 rfl) ?_
      refine lv_iload_n hx hb d_Mo_wrong_55 rfl (lv_at hl 4 rfl) ?_
      refine lv_iload_n hx hb d_Mo_wrong_56 rfl (lv_at hl 3 rfl) ?_
      refine lv_iload hx hb d_Mo_wrong_57 (lv_at hl 1 rfl) ?_
      refine r_backi (wi := [(h0, .inr (8, moL ma (va_up (va_up iv 2 (nI st.length)) 0 (nI nf)) co)), ((ma 0), .inl (k 0, 4, .inl (fun i => nI (tk i)))), ((ma 1), .inl (k 0, 800, .inl wd)), ((ma 2), .inl (k 0, 4, .inl (fun i => nI (ct i))))]) (wr := [((ma 4), .inl (k 0, 20, .inl (fun i => nI (OA i)))), ((ma 5), .inl (k 0, 20, .inl (fun i => nI (OP i)))), ((ma 6), .inl (k 0, 20, .inl (fun i => nI (OK i)))), ((ma 3), .inl (k 0, 800, .inl (fun i => nI (En9 i))))]) S hA [0, 1, 2, 3] [4, 5, 6, 7] rfl rfl (by decide) (by decide) (va_runV (As := [.int (nI f9), .int (nI at9), .int (nI kn)]) (rest := []) ⟨hx, hb, C.2.2.1, C.2.2.2.1, C.2.2.2.2.1⟩ (g_Mo_wrongHead l G k h0 _ f9 at9 kn nf ma (va_up iv 2 (nI st.length)) co tk ct wd hf hac hct hnf htk) (k_virt (n := 3) C wc_Mo_wrongHead rfl rfl wz_Mo wm_Mo_121 wn_Mo_wrongHead ws_Mo_wrongHead (by decide +kernel) ⟨(Nat.le_of_ble_eq_true rfl), (Nat.le_of_ble_eq_true rfl)⟩) (pr_nowV K S [0, 1, 2, 3] (by decide) rfl 0 rfl rfl) rfl rfl hl.1 rfl (lv_room (Nat.le_of_ble_eq_true rfl)) d_Mo_wrong_59 ⟨(Nat.le_of_ble_eq_true rfl), (Nat.le_of_ble_eq_true rfl)⟩) (fun r16 u14 H locs hw15 S => ?_)
      have S : Sw G A s.heap _ _ [((ma 4), .inl (k 0, 20, .inl (fun i => nI (OA i)))), ((ma 5), .inl (k 0, 20, .inl (fun i => nI (OP i)))), ((ma 6), .inl (k 0, 20, .inl (fun i => nI (OK i)))), ((ma 3), .inl (k 0, 800, .inl (fun i => nI (En9 i)))), (h0, .inr (8, moL ma (va_up (va_up iv 2 (nI st.length)) 0 (nI nf)) co)), ((ma 0), .inl (k 0, 4, .inl (fun i => nI (tk i)))), ((ma 1), .inl (k 0, 800, .inl wd)), ((ma 2), .inl (k 0, 4, .inl (fun i => nI (ct i))))] := S
      obtain ⟨hw150, hp17⟩ := hw15
      obtain rfl : r16 = bI (wh (wdF wd f9) tk nf (ct f9) at9 kn) := hw150
      rw [hwh]
      show W _ _ _ _ _ _ _ _ _ _ _ _ _ _ _ (F0 m _ ls [.int (-1)])
      refine lv_istore (lv' := [(6, .int (-1)), (5, .int 0), (4, .int (nI kn)), (3, .int (nI nodes)), (2, .int (nI at9)), (1, .int (nI f9)), (0, .ref h0)]) hx hb d_Mo_wrong_62 hl (by decide) rfl (fun ls hl => ?_)
      refine lv_iload hx hb d_Mo_wrong_64 (lv_at hl 0 rfl) ?_
      refine lv_if_lt (tgt := 72) hx hb d_Mo_wrong_66 (by decide) (fun _ => ?_) (fun hq => absurd (by decide) hq)
      refine lv_iinc (v := nI (nodes + 1)) (lv' := [(3, .int (nI (nodes + 1))), (6, .int (-1)), (5, .int 0), (4, .int (nI kn)), (2, .int (nI at9)), (1, .int (nI f9)), (0, .ref h0)]) hx hb d_Mo_wrong_72 hl (k := 3) rfl (show nI nodes + Int32.ofInt 1 = nI (nodes + 1) from (nI_add nodes 1).trans (congrArg nI (by omega))) (by decide) rfl (fun ls hl => ?_)
      refine lv_aload_n hx hb d_Mo_wrong_75 rfl (lv_at hl 6 rfl) ?_
      refine r_get C K S 4 rfl rfl clOk_Mo 6 (by decide) wf_Mo_26 (v := .ref (ma 4)) rfl d_Mo_wrong_76 ?_
      refine lv_aload_n hx hb d_Mo_wrong_79 rfl (lv_at hl 6 rfl) ?_
      refine r_get C K S 4 rfl rfl clOk_Mo 9 (by decide) wf_Mo_118 (v := .int (nI st.length)) rfl d_Mo_wrong_80 ?_
      refine lv_iload_n hx hb d_Mo_wrong_83 rfl (lv_at hl 4 rfl) ?_
      refine r_iast C K S 0 rfl (i := nI st.length) (x := nI at9) (show vp_in (nI st.length) _ from vp_in_nI (n := st.length) (by omega) (by decide)) (f' := fun i => nI (va_up OA st.length at9 i)) (ws' := [((ma 4), .inl (k 0, 20, .inl (fun i => nI (va_up OA st.length at9 i)))), ((ma 5), .inl (k 0, 20, .inl (fun i => nI (OP i)))), ((ma 6), .inl (k 0, 20, .inl (fun i => nI (OK i)))), ((ma 3), .inl (k 0, 800, .inl (fun i => nI (En9 i)))), (h0, .inr (8, moL ma (va_up (va_up iv 2 (nI st.length)) 0 (nI nf)) co)), ((ma 0), .inl (k 0, 4, .inl (fun i => nI (tk i)))), ((ma 1), .inl (k 0, 800, .inl wd)), ((ma 2), .inl (k 0, 4, .inl (fun i => nI (ct i))))]) (show upd _ (nI st.length : Int32).toNatClampNeg (nI at9) = _ from upd_nI OA (j := st.length) (by omega) at9) rfl d_Mo_wrong_84 (fun H locs S => ?_)
      refine lv_aload_n hx hb d_Mo_wrong_85 rfl (lv_at hl 6 rfl) ?_
      refine r_get C K S 4 rfl rfl clOk_Mo 7 (by decide) wf_Mo_29 (v := .ref (ma 5)) rfl d_Mo_wrong_86 ?_
      refine lv_aload_n hx hb d_Mo_wrong_89 rfl (lv_at hl 6 rfl) ?_
      refine r_get C K S 4 rfl rfl clOk_Mo 9 (by decide) wf_Mo_118 (v := .int (nI st.length)) rfl d_Mo_wrong_90 ?_
      refine lv_iconst (v := 0) hx hb d_Mo_wrong_93 (by decide) ?_
      refine r_iast C K S 1 rfl (i := nI st.length) (x := 0) (show vp_in (nI st.length) _ from vp_in_nI (n := st.length) (by omega) (by decide)) (f' := fun i => nI (va_up OP st.length 0 i)) (ws' := [((ma 4), .inl (k 0, 20, .inl (fun i => nI (va_up OA st.length at9 i)))), ((ma 5), .inl (k 0, 20, .inl (fun i => nI (va_up OP st.length 0 i)))), ((ma 6), .inl (k 0, 20, .inl (fun i => nI (OK i)))), ((ma 3), .inl (k 0, 800, .inl (fun i => nI (En9 i)))), (h0, .inr (8, moL ma (va_up (va_up iv 2 (nI st.length)) 0 (nI nf)) co)), ((ma 0), .inl (k 0, 4, .inl (fun i => nI (tk i)))), ((ma 1), .inl (k 0, 800, .inl wd)), ((ma 2), .inl (k 0, 4, .inl (fun i => nI (ct i))))]) (show upd _ (nI st.length : Int32).toNatClampNeg 0 = _ from upd_nI OP (j := st.length) (by omega) 0) rfl d_Mo_wrong_94 (fun H locs S => ?_)
      refine lv_aload_n hx hb d_Mo_wrong_95 rfl (lv_at hl 6 rfl) ?_
      refine r_get C K S 4 rfl rfl clOk_Mo 8 (by decide) wf_Mo_32 (v := .ref (ma 6)) rfl d_Mo_wrong_96 ?_
      refine lv_aload_n hx hb d_Mo_wrong_99 rfl (lv_at hl 6 rfl) ?_
      refine r_get C K S 4 rfl rfl clOk_Mo 9 (by decide) wf_Mo_118 (v := .int (nI st.length)) rfl d_Mo_wrong_100 ?_
      refine lv_iload hx hb d_Mo_wrong_103 (lv_at hl 3 rfl) ?_
      refine r_iast C K S 2 rfl (i := nI st.length) (x := nI kn) (show vp_in (nI st.length) _ from vp_in_nI (n := st.length) (by omega) (by decide)) (f' := fun i => nI (va_up OK st.length kn i)) (ws' := [((ma 4), .inl (k 0, 20, .inl (fun i => nI (va_up OA st.length at9 i)))), ((ma 5), .inl (k 0, 20, .inl (fun i => nI (va_up OP st.length 0 i)))), ((ma 6), .inl (k 0, 20, .inl (fun i => nI (va_up OK st.length kn i)))), ((ma 3), .inl (k 0, 800, .inl (fun i => nI (En9 i)))), (h0, .inr (8, moL ma (va_up (va_up iv 2 (nI st.length)) 0 (nI nf)) co)), ((ma 0), .inl (k 0, 4, .inl (fun i => nI (tk i)))), ((ma 1), .inl (k 0, 800, .inl wd)), ((ma 2), .inl (k 0, 4, .inl (fun i => nI (ct i))))]) (show upd _ (nI st.length : Int32).toNatClampNeg (nI kn) = _ from upd_nI OK (j := st.length) (by omega) kn) rfl d_Mo_wrong_105 (fun H locs S => ?_)
      refine lv_aload_n hx hb d_Mo_wrong_106 rfl (lv_at hl 6 rfl) ?_
      refine lv_dup hx hb d_Mo_wrong_107 rfl ?_
      refine r_get C K S 4 rfl rfl clOk_Mo 9 (by decide) wf_Mo_118 (v := .int (nI st.length)) rfl d_Mo_wrong_108 ?_
      refine lv_iconst (v := 1) hx hb d_Mo_wrong_111 (by decide) ?_
      refine z_iadd (x := nI st.length) (y := 1) (v := nI (st.length + 1)) hx hb d_Mo_wrong_112 (nI_add st.length 1) ?_
      refine r_put C K S 4 rfl rfl clOk_Mo 9 (by decide) wf_Mo_118 rfl (ty := .int) (v := .int (nI (st.length + 1))) (by decide +kernel) rfl rfl (Nat.le_of_ble_eq_true rfl) (fs' := moL ma (va_up (va_up iv 0 (nI nf)) 2 (nI (st.length + 1))) co) (ws' := [((ma 4), .inl (k 0, 20, .inl (fun i => nI (va_up OA st.length at9 i)))), ((ma 5), .inl (k 0, 20, .inl (fun i => nI (va_up OP st.length 0 i)))), ((ma 6), .inl (k 0, 20, .inl (fun i => nI (va_up OK st.length kn i)))), ((ma 3), .inl (k 0, 800, .inl (fun i => nI (En9 i)))), (h0, .inr (8, moL ma (va_up (va_up iv 0 (nI nf)) 2 (nI (st.length + 1))) co)), ((ma 0), .inl (k 0, 4, .inl (fun i => nI (tk i)))), ((ma 1), .inl (k 0, 800, .inl wd)), ((ma 2), .inl (k 0, 4, .inl (fun i => nI (ct i))))]) rfl rfl d_Mo_wrong_113 (fun H locs S => ?_)
      refine lv_iload_n hx hb d_Mo_wrong_116 rfl (lv_at hl 4 rfl) ?_
      refine lv_aload_n hx hb d_Mo_wrong_117 rfl (lv_at hl 6 rfl) ?_
      refine lv_iload_n hx hb d_Mo_wrong_118 rfl (lv_at hl 5 rfl) ?_
      refine lv_iload_n hx hb d_Mo_wrong_119 rfl (lv_at hl 4 rfl) ?_
      refine r_backi (wi := [(h0, .inr (8, moL ma (va_up (va_up iv 0 (nI nf)) 2 (nI (st.length + 1))) co)), ((ma 0), .inl (k 0, 4, .inl (fun i => nI (tk i)))), ((ma 1), .inl (k 0, 800, .inl wd))]) (wr := [((ma 4), .inl (k 0, 20, .inl (fun i => nI (va_up OA st.length at9 i)))), ((ma 5), .inl (k 0, 20, .inl (fun i => nI (va_up OP st.length 0 i)))), ((ma 6), .inl (k 0, 20, .inl (fun i => nI (va_up OK st.length kn i)))), ((ma 3), .inl (k 0, 800, .inl (fun i => nI (En9 i)))), ((ma 2), .inl (k 0, 4, .inl (fun i => nI (ct i))))]) S hA [4, 5, 6] [0, 1, 2, 3, 7] rfl rfl (by decide) (by decide) (va_runV (As := [.int (nI f9), .int (nI at9)]) (rest := [.int (nI at9)]) ⟨hx, hb, C.2.2.1, C.2.2.2.1, C.2.2.2.2.1⟩ (g_Mo_headOf l G k h0 _ f9 at9 ma (va_up (va_up iv 0 (nI nf)) 2 (nI (st.length + 1))) co tk wd hf (by omega) (wh_five hnf hct hwh hac) htk) (k_virt (n := 2) C wc_Mo_headOf rfl rfl wz_Mo wm_Mo_125 wn_Mo_headOf ws_Mo_headOf (by decide +kernel) ⟨(Nat.le_of_ble_eq_true rfl), (Nat.le_of_ble_eq_true rfl)⟩) (pr_nowV K S [4, 5, 6] (by decide) rfl 4 rfl rfl) rfl rfl hl.1 rfl (lv_room (Nat.le_of_ble_eq_true rfl)) d_Mo_wrong_120 ⟨(Nat.le_of_ble_eq_true rfl), (Nat.le_of_ble_eq_true rfl)⟩) (fun r20 u18 H locs hw19 S => ?_)
      have S : Sw G A s.heap _ _ [((ma 4), .inl (k 0, 20, .inl (fun i => nI (va_up OA st.length at9 i)))), ((ma 5), .inl (k 0, 20, .inl (fun i => nI (va_up OP st.length 0 i)))), ((ma 6), .inl (k 0, 20, .inl (fun i => nI (va_up OK st.length kn i)))), ((ma 3), .inl (k 0, 800, .inl (fun i => nI (En9 i)))), ((ma 2), .inl (k 0, 4, .inl (fun i => nI (ct i)))), (h0, .inr (8, moL ma (va_up (va_up iv 0 (nI nf)) 2 (nI (st.length + 1))) co)), ((ma 0), .inl (k 0, 4, .inl (fun i => nI (tk i)))), ((ma 1), .inl (k 0, 800, .inl wd))] := S
      obtain ⟨hw190, hp21⟩ := hw19
      obtain rfl : r20 = nI (hdN (wdF wd f9) tk at9) := hw190
      refine z_iadd (x := nI at9) (y := nI (hdN (wdF wd f9) tk at9)) (v := nI (at9 + hdN (wdF wd f9) tk at9)) hx hb d_Mo_wrong_123 (nI_add at9 (hdN (wdF wd f9) tk at9)) ?_
      refine lv_istore_n (lv' := [(2, .int (nI (at9 + hdN (wdF wd f9) tk at9))), (3, .int (nI (nodes + 1))), (6, .int (-1)), (5, .int 0), (4, .int (nI kn)), (1, .int (nI f9)), (0, .ref h0)]) hx hb d_Mo_wrong_124 rfl hl (by decide) rfl (fun ls hl => ?_)
      refine lv_aload_n hx hb d_Mo_wrong_125 rfl (lv_at hl 6 rfl) ?_
      refine lv_iload_n hx hb d_Mo_wrong_126 rfl (lv_at hl 5 rfl) ?_
      refine lv_iload_n hx hb d_Mo_wrong_127 rfl (lv_at hl 0 rfl) ?_
      have hs2 : stO ((at9, 0, kn) :: st) (va_up OA st.length at9) (va_up OP st.length 0) (va_up OK st.length kn) := ⟨va_up_self _ _ _, va_up_self _ _ _, va_up_self _ _ _, stO_congr (fun i hi => ⟨va_up_ne _ _ (by omega), va_up_ne _ _ (by omega), va_up_ne _ _ (by omega)⟩) hst⟩
      have hb2 : stB nodes ((at9, 0, kn) :: st) := ⟨by omega, Nat.zero_le _, hsB⟩
      refine r_backi (wi := [(h0, .inr (8, moL ma (va_up (va_up iv 0 (nI nf)) 2 (nI ((at9, 0, kn) :: st).length)) co)), ((ma 1), .inl (k 0, 800, .inl wd)), ((ma 4), .inl (k 0, 20, .inl (fun i => nI (va_up OA st.length at9 i)))), ((ma 5), .inl (k 0, 20, .inl (fun i => nI (va_up OP st.length 0 i)))), ((ma 6), .inl (k 0, 20, .inl (fun i => nI (va_up OK st.length kn i)))), ((ma 3), .inl (k 0, 800, .inl (fun i => nI (En9 i))))]) (wr := [((ma 2), .inl (k 0, 4, .inl (fun i => nI (ct i)))), ((ma 0), .inl (k 0, 4, .inl (fun i => nI (tk i))))]) S hA [5, 7, 0, 1, 2, 3] [4, 6] rfl rfl (by decide) (by decide) (va_runV (As := [.int (nI f9), .int (nI (at9 + hdN (wdF wd f9) tk at9))]) (rest := []) ⟨hx, hb, C.2.2.1, C.2.2.2.1, C.2.2.2.2.1⟩ (g_Mo_close l G k h0 _ f9 (at9 + hdN (wdF wd f9) tk at9) nodes ((at9, 0, kn) :: st) ma (va_up iv 0 (nI nf)) co wd (va_up OA st.length at9) (va_up OP st.length 0) (va_up OK st.length kn) En9 hf (by omega) hs2 hb2 (by omega) (show st.length + 1 ≤ 18 by omega)) (k_virt (n := 2) C wc_Mo_close rfl rfl wz_Mo wm_Mo_129 wn_Mo_close ws_Mo_close (by decide +kernel) ⟨(Nat.le_of_ble_eq_true rfl), (Nat.le_of_ble_eq_true rfl)⟩) (pr_nowV K S [5, 7, 0, 1, 2, 3] (by decide) rfl 5 rfl rfl) rfl rfl hl.1 rfl (lv_room (Nat.le_of_ble_eq_true rfl)) d_Mo_wrong_128 ⟨(Nat.le_of_ble_eq_true rfl), (Nat.le_of_ble_eq_true rfl)⟩) (fun r23 cu H locs hw22 S => ?_)
      have S : Sw G A s.heap _ _ [((ma 2), .inl (k 0, 4, .inl (fun i => nI (ct i)))), ((ma 0), .inl (k 0, 4, .inl (fun i => nI (tk i)))), (h0, .inr (8, moL ma (va_up (va_up iv 0 (nI nf)) 2 (nI cu.2.2.length)) co)), ((ma 1), .inl (k 0, 800, .inl wd)), ((ma 4), .inl (k 0, 20, .inl (fun i => nI ((va_up OA st.length at9) i)))), ((ma 5), .inl (k 0, 20, .inl (fun i => nI (cu.1 i)))), ((ma 6), .inl (k 0, 20, .inl (fun i => nI ((va_up OK st.length kn) i)))), ((ma 3), .inl (k 0, 800, .inl (fun i => nI (cu.2.1 i))))] := S
      obtain ⟨hw220, ⟨hq1, hq2, hq3, hq4, hq5⟩⟩ := hw22
      obtain rfl : r23 = nI (if cu.2.2 = [] then 1 else 0) := hw220
      rw [← hEn] at hclo
      have hcz := hq1.symm.trans hclo
      have hcz1 : cu.2.2 = [] := congrArg Prod.fst hcz
      have hcz2 : enF cu.2.1 f9 = _ := congrArg Prod.snd hcz
      rw [if_pos hcz1]
      show W _ _ _ _ _ _ _ _ _ _ _ _ _ _ _ (F0 m _ ls [.int 1])
      refine lv_istore (lv' := [(5, .int 1), (2, .int (nI (at9 + hdN (wdF wd f9) tk at9))), (3, .int (nI (nodes + 1))), (6, .int (-1)), (4, .int (nI kn)), (1, .int (nI f9)), (0, .ref h0)]) hx hb d_Mo_wrong_131 hl (by decide) rfl (fun ls hl => ?_)
      refine lv_iload hx hb d_Mo_wrong_133 (lv_at hl 0 rfl) ?_
      refine lv_if_ne (tgt := 145) hx hb d_Mo_wrong_135 (by decide) (fun _ => ?_) (fun hq => absurd hq (by decide))
      refine lv_goto (tgt := 20) hx hb d_Mo_wrong_145 (by decide) ?_
      refine lv_iload hx hb d_Mo_wrong_20 (lv_at hl 0 rfl) ?_
      refine lv_if_ne (tgt := 148) hx hb d_Mo_wrong_22 (by decide) (fun _ => ?_) (fun hq => absurd hq (by decide))
      refine lv_iload_n hx hb d_Mo_wrong_148 rfl (lv_at hl 1 rfl) ?_
      refine lv_aload_n hx hb d_Mo_wrong_149 rfl (lv_at hl 6 rfl) ?_
      refine r_get C K S 2 rfl rfl clOk_Mo 3 (by decide) wf_Mo_16 (v := .ref (ma 2)) rfl d_Mo_wrong_150 ?_
      refine lv_iload_n hx hb d_Mo_wrong_153 rfl (lv_at hl 5 rfl) ?_
      refine r_iald C K S 0 rfl (i := nI f9) (show vp_in (nI f9) _ from vp_in_nI (n := f9) (by omega) (by decide)) (v := nI (ct f9)) (by rw [nI_clamp (by omega)]) d_Mo_wrong_154 ?_
      refine z_icmp_ne (a := (at9 + hdN (wdF wd f9) tk at9)) (b := (ct f9)) (tgt := 162) hx hb d_Mo_wrong_155 (by decide) (by omega) (by omega) (fun hc24 => ?_) (fun hc24 => ?_)
      · refine lv_iload_n hx hb d_Mo_wrong_162 rfl (lv_at hl 1 rfl) ?_
        exact r_iret C K rfl (uz [va_up OA st.length at9, cu.1, va_up OK st.length kn, cu.2.1], cu.2.2.length) ⟨by rw [← hr9, ← hrr.1]; rw [if_neg hc24]; rfl, fun a2 n2 E2 q => (hcz2.trans hrr.2).trans (hE9 a2 n2 E2 q), fun i hi => (hq5 i hi).trans (hou i hi)⟩ (S.sub [2, 1, 3, 0, 4, 5, 6, 7] (by decide) rfl) d_Mo_wrong_163 (Nat.le_of_ble_eq_true rfl) (Nat.le_of_ble_eq_true rfl)
      · refine lv_iconst (v := (-1)) hx hb d_Mo_wrong_158 (by decide) ?_
        refine lv_goto (tgt := 163) hx hb d_Mo_wrong_159 (by decide) ?_
        exact r_iret C K rfl (uz [va_up OA st.length at9, cu.1, va_up OK st.length kn, cu.2.1], cu.2.2.length) ⟨by rw [← hr9, ← hrr.1]; rw [if_pos hc24]; rfl, fun a2 n2 E2 q => (hcz2.trans hrr.2).trans (hE9 a2 n2 E2 q), fun i hi => (hq5 i hi).trans (hou i hi)⟩ (S.sub [2, 1, 3, 0, 4, 5, 6, 7] (by decide) rfl) d_Mo_wrong_163 (Nat.le_of_ble_eq_true rfl) (Nat.le_of_ble_eq_true rfl)
    · intro at9 nodes kn st st2 E E2 E3 r8 hac hnd hsl hwh hclo hne hP hrr hno OA OP OK En9 hEn hst hsB hou H locs S ls hl
      have hhd := wh_hd hwh hac
      refine lv_iload hx hb d_Mo_wrong_20 (lv_at hl 0 rfl) ?_
      refine lv_if_ne (tgt := 148) hx hb d_Mo_wrong_22 (by decide) (fun hq => absurd (by decide) hq) (fun _ => ?_)
      refine lv_iload_n hx hb d_Mo_wrong_25 rfl (lv_at hl 3 rfl) ?_
      refine lv_aload_n hx hb d_Mo_wrong_26 rfl (lv_at hl 5 rfl) ?_
      refine r_get C K S 0 rfl rfl clOk_Mo 3 (by decide) wf_Mo_16 (v := .ref (ma 2)) rfl d_Mo_wrong_27 ?_
      refine lv_iload_n hx hb d_Mo_wrong_30 rfl (lv_at hl 4 rfl) ?_
      refine r_iald C K S 3 rfl (i := nI f9) (show vp_in (nI f9) _ from vp_in_nI (n := f9) (by omega) (by decide)) (v := nI (ct f9)) (by rw [nI_clamp (by omega)]) d_Mo_wrong_31 ?_
      refine z_icmp_ne (a := at9) (b := (ct f9)) (tgt := 37) hx hb d_Mo_wrong_32 (by decide) (by omega) (by omega) (fun hc25 => ?_) (fun hc25 => False.elim (by omega))
      refine lv_iload_n hx hb d_Mo_wrong_37 rfl (lv_at hl 2 rfl) ?_
      refine lv_bipush (v := 40) hx hb d_Mo_wrong_38 (by decide) ?_
      refine z_icmp_eq (a := nodes) (b := 40) (tgt := 52) hx hb d_Mo_wrong_40 (by decide) (by omega) (by omega) (fun hc26 => False.elim (by omega)) (fun hc26 => ?_)
      refine lv_aload_n hx hb d_Mo_wrong_43 rfl (lv_at hl 5 rfl) ?_
      refine r_get C K S 0 rfl rfl clOk_Mo 9 (by decide) wf_Mo_118 (v := .int (nI st.length)) rfl d_Mo_wrong_44 ?_
      refine lv_bipush (v := 16) hx hb d_Mo_wrong_47 (by decide) ?_
      refine z_icmp_ne (a := st.length) (b := 16) (tgt := 54) hx hb d_Mo_wrong_49 (by decide) (by omega) (by omega) (fun hc27 => ?_) (fun hc27 => False.elim (by omega))
      refine lv_aload_n hx hb d_Mo_wrong_54 rfl (lv_at hl 5 rfl) ?_
      refine lv_iload_n hx hb d_Mo_wrong_55 rfl (lv_at hl 4 rfl) ?_
      refine lv_iload_n hx hb d_Mo_wrong_56 rfl (lv_at hl 3 rfl) ?_
      refine lv_iload hx hb d_Mo_wrong_57 (lv_at hl 1 rfl) ?_
      refine r_backi (wi := [(h0, .inr (8, moL ma (va_up (va_up iv 2 (nI st.length)) 0 (nI nf)) co)), ((ma 0), .inl (k 0, 4, .inl (fun i => nI (tk i)))), ((ma 1), .inl (k 0, 800, .inl wd)), ((ma 2), .inl (k 0, 4, .inl (fun i => nI (ct i))))]) (wr := [((ma 4), .inl (k 0, 20, .inl (fun i => nI (OA i)))), ((ma 5), .inl (k 0, 20, .inl (fun i => nI (OP i)))), ((ma 6), .inl (k 0, 20, .inl (fun i => nI (OK i)))), ((ma 3), .inl (k 0, 800, .inl (fun i => nI (En9 i))))]) S hA [0, 1, 2, 3] [4, 5, 6, 7] rfl rfl (by decide) (by decide) (va_runV (As := [.int (nI f9), .int (nI at9), .int (nI kn)]) (rest := []) ⟨hx, hb, C.2.2.1, C.2.2.2.1, C.2.2.2.2.1⟩ (g_Mo_wrongHead l G k h0 _ f9 at9 kn nf ma (va_up iv 2 (nI st.length)) co tk ct wd hf hac hct hnf htk) (k_virt (n := 3) C wc_Mo_wrongHead rfl rfl wz_Mo wm_Mo_121 wn_Mo_wrongHead ws_Mo_wrongHead (by decide +kernel) ⟨(Nat.le_of_ble_eq_true rfl), (Nat.le_of_ble_eq_true rfl)⟩) (pr_nowV K S [0, 1, 2, 3] (by decide) rfl 0 rfl rfl) rfl rfl hl.1 rfl (lv_room (Nat.le_of_ble_eq_true rfl)) d_Mo_wrong_59 ⟨(Nat.le_of_ble_eq_true rfl), (Nat.le_of_ble_eq_true rfl)⟩) (fun r30 u28 H locs hw29 S => ?_)
      have S : Sw G A s.heap _ _ [((ma 4), .inl (k 0, 20, .inl (fun i => nI (OA i)))), ((ma 5), .inl (k 0, 20, .inl (fun i => nI (OP i)))), ((ma 6), .inl (k 0, 20, .inl (fun i => nI (OK i)))), ((ma 3), .inl (k 0, 800, .inl (fun i => nI (En9 i)))), (h0, .inr (8, moL ma (va_up (va_up iv 2 (nI st.length)) 0 (nI nf)) co)), ((ma 0), .inl (k 0, 4, .inl (fun i => nI (tk i)))), ((ma 1), .inl (k 0, 800, .inl wd)), ((ma 2), .inl (k 0, 4, .inl (fun i => nI (ct i))))] := S
      obtain ⟨hw290, hp31⟩ := hw29
      obtain rfl : r30 = bI (wh (wdF wd f9) tk nf (ct f9) at9 kn) := hw290
      rw [hwh]
      show W _ _ _ _ _ _ _ _ _ _ _ _ _ _ _ (F0 m _ ls [.int (-1)])
      refine lv_istore (lv' := [(6, .int (-1)), (5, .int 0), (4, .int (nI kn)), (3, .int (nI nodes)), (2, .int (nI at9)), (1, .int (nI f9)), (0, .ref h0)]) hx hb d_Mo_wrong_62 hl (by decide) rfl (fun ls hl => ?_)
      refine lv_iload hx hb d_Mo_wrong_64 (lv_at hl 0 rfl) ?_
      refine lv_if_lt (tgt := 72) hx hb d_Mo_wrong_66 (by decide) (fun _ => ?_) (fun hq => absurd (by decide) hq)
      refine lv_iinc (v := nI (nodes + 1)) (lv' := [(3, .int (nI (nodes + 1))), (6, .int (-1)), (5, .int 0), (4, .int (nI kn)), (2, .int (nI at9)), (1, .int (nI f9)), (0, .ref h0)]) hx hb d_Mo_wrong_72 hl (k := 3) rfl (show nI nodes + Int32.ofInt 1 = nI (nodes + 1) from (nI_add nodes 1).trans (congrArg nI (by omega))) (by decide) rfl (fun ls hl => ?_)
      refine lv_aload_n hx hb d_Mo_wrong_75 rfl (lv_at hl 6 rfl) ?_
      refine r_get C K S 4 rfl rfl clOk_Mo 6 (by decide) wf_Mo_26 (v := .ref (ma 4)) rfl d_Mo_wrong_76 ?_
      refine lv_aload_n hx hb d_Mo_wrong_79 rfl (lv_at hl 6 rfl) ?_
      refine r_get C K S 4 rfl rfl clOk_Mo 9 (by decide) wf_Mo_118 (v := .int (nI st.length)) rfl d_Mo_wrong_80 ?_
      refine lv_iload_n hx hb d_Mo_wrong_83 rfl (lv_at hl 4 rfl) ?_
      refine r_iast C K S 0 rfl (i := nI st.length) (x := nI at9) (show vp_in (nI st.length) _ from vp_in_nI (n := st.length) (by omega) (by decide)) (f' := fun i => nI (va_up OA st.length at9 i)) (ws' := [((ma 4), .inl (k 0, 20, .inl (fun i => nI (va_up OA st.length at9 i)))), ((ma 5), .inl (k 0, 20, .inl (fun i => nI (OP i)))), ((ma 6), .inl (k 0, 20, .inl (fun i => nI (OK i)))), ((ma 3), .inl (k 0, 800, .inl (fun i => nI (En9 i)))), (h0, .inr (8, moL ma (va_up (va_up iv 2 (nI st.length)) 0 (nI nf)) co)), ((ma 0), .inl (k 0, 4, .inl (fun i => nI (tk i)))), ((ma 1), .inl (k 0, 800, .inl wd)), ((ma 2), .inl (k 0, 4, .inl (fun i => nI (ct i))))]) (show upd _ (nI st.length : Int32).toNatClampNeg (nI at9) = _ from upd_nI OA (j := st.length) (by omega) at9) rfl d_Mo_wrong_84 (fun H locs S => ?_)
      refine lv_aload_n hx hb d_Mo_wrong_85 rfl (lv_at hl 6 rfl) ?_
      refine r_get C K S 4 rfl rfl clOk_Mo 7 (by decide) wf_Mo_29 (v := .ref (ma 5)) rfl d_Mo_wrong_86 ?_
      refine lv_aload_n hx hb d_Mo_wrong_89 rfl (lv_at hl 6 rfl) ?_
      refine r_get C K S 4 rfl rfl clOk_Mo 9 (by decide) wf_Mo_118 (v := .int (nI st.length)) rfl d_Mo_wrong_90 ?_
      refine lv_iconst (v := 0) hx hb d_Mo_wrong_93 (by decide) ?_
      refine r_iast C K S 1 rfl (i := nI st.length) (x := 0) (show vp_in (nI st.length) _ from vp_in_nI (n := st.length) (by omega) (by decide)) (f' := fun i => nI (va_up OP st.length 0 i)) (ws' := [((ma 4), .inl (k 0, 20, .inl (fun i => nI (va_up OA st.length at9 i)))), ((ma 5), .inl (k 0, 20, .inl (fun i => nI (va_up OP st.length 0 i)))), ((ma 6), .inl (k 0, 20, .inl (fun i => nI (OK i)))), ((ma 3), .inl (k 0, 800, .inl (fun i => nI (En9 i)))), (h0, .inr (8, moL ma (va_up (va_up iv 2 (nI st.length)) 0 (nI nf)) co)), ((ma 0), .inl (k 0, 4, .inl (fun i => nI (tk i)))), ((ma 1), .inl (k 0, 800, .inl wd)), ((ma 2), .inl (k 0, 4, .inl (fun i => nI (ct i))))]) (show upd _ (nI st.length : Int32).toNatClampNeg 0 = _ from upd_nI OP (j := st.length) (by omega) 0) rfl d_Mo_wrong_94 (fun H locs S => ?_)
      refine lv_aload_n hx hb d_Mo_wrong_95 rfl (lv_at hl 6 rfl) ?_
      refine r_get C K S 4 rfl rfl clOk_Mo 8 (by decide) wf_Mo_32 (v := .ref (ma 6)) rfl d_Mo_wrong_96 ?_
      refine lv_aload_n hx hb d_Mo_wrong_99 rfl (lv_at hl 6 rfl) ?_
      refine r_get C K S 4 rfl rfl clOk_Mo 9 (by decide) wf_Mo_118 (v := .int (nI st.length)) rfl d_Mo_wrong_100 ?_
      refine lv_iload hx hb d_Mo_wrong_103 (lv_at hl 3 rfl) ?_
      refine r_iast C K S 2 rfl (i := nI st.length) (x := nI kn) (show vp_in (nI st.length) _ from vp_in_nI (n := st.length) (by omega) (by decide)) (f' := fun i => nI (va_up OK st.length kn i)) (ws' := [((ma 4), .inl (k 0, 20, .inl (fun i => nI (va_up OA st.length at9 i)))), ((ma 5), .inl (k 0, 20, .inl (fun i => nI (va_up OP st.length 0 i)))), ((ma 6), .inl (k 0, 20, .inl (fun i => nI (va_up OK st.length kn i)))), ((ma 3), .inl (k 0, 800, .inl (fun i => nI (En9 i)))), (h0, .inr (8, moL ma (va_up (va_up iv 2 (nI st.length)) 0 (nI nf)) co)), ((ma 0), .inl (k 0, 4, .inl (fun i => nI (tk i)))), ((ma 1), .inl (k 0, 800, .inl wd)), ((ma 2), .inl (k 0, 4, .inl (fun i => nI (ct i))))]) (show upd _ (nI st.length : Int32).toNatClampNeg (nI kn) = _ from upd_nI OK (j := st.length) (by omega) kn) rfl d_Mo_wrong_105 (fun H locs S => ?_)
      refine lv_aload_n hx hb d_Mo_wrong_106 rfl (lv_at hl 6 rfl) ?_
      refine lv_dup hx hb d_Mo_wrong_107 rfl ?_
      refine r_get C K S 4 rfl rfl clOk_Mo 9 (by decide) wf_Mo_118 (v := .int (nI st.length)) rfl d_Mo_wrong_108 ?_
      refine lv_iconst (v := 1) hx hb d_Mo_wrong_111 (by decide) ?_
      refine z_iadd (x := nI st.length) (y := 1) (v := nI (st.length + 1)) hx hb d_Mo_wrong_112 (nI_add st.length 1) ?_
      refine r_put C K S 4 rfl rfl clOk_Mo 9 (by decide) wf_Mo_118 rfl (ty := .int) (v := .int (nI (st.length + 1))) (by decide +kernel) rfl rfl (Nat.le_of_ble_eq_true rfl) (fs' := moL ma (va_up (va_up iv 0 (nI nf)) 2 (nI (st.length + 1))) co) (ws' := [((ma 4), .inl (k 0, 20, .inl (fun i => nI (va_up OA st.length at9 i)))), ((ma 5), .inl (k 0, 20, .inl (fun i => nI (va_up OP st.length 0 i)))), ((ma 6), .inl (k 0, 20, .inl (fun i => nI (va_up OK st.length kn i)))), ((ma 3), .inl (k 0, 800, .inl (fun i => nI (En9 i)))), (h0, .inr (8, moL ma (va_up (va_up iv 0 (nI nf)) 2 (nI (st.length + 1))) co)), ((ma 0), .inl (k 0, 4, .inl (fun i => nI (tk i)))), ((ma 1), .inl (k 0, 800, .inl wd)), ((ma 2), .inl (k 0, 4, .inl (fun i => nI (ct i))))]) rfl rfl d_Mo_wrong_113 (fun H locs S => ?_)
      refine lv_iload_n hx hb d_Mo_wrong_116 rfl (lv_at hl 4 rfl) ?_
      refine lv_aload_n hx hb d_Mo_wrong_117 rfl (lv_at hl 6 rfl) ?_
      refine lv_iload_n hx hb d_Mo_wrong_118 rfl (lv_at hl 5 rfl) ?_
      refine lv_iload_n hx hb d_Mo_wrong_119 rfl (lv_at hl 4 rfl) ?_
      refine r_backi (wi := [(h0, .inr (8, moL ma (va_up (va_up iv 0 (nI nf)) 2 (nI (st.length + 1))) co)), ((ma 0), .inl (k 0, 4, .inl (fun i => nI (tk i)))), ((ma 1), .inl (k 0, 800, .inl wd))]) (wr := [((ma 4), .inl (k 0, 20, .inl (fun i => nI (va_up OA st.length at9 i)))), ((ma 5), .inl (k 0, 20, .inl (fun i => nI (va_up OP st.length 0 i)))), ((ma 6), .inl (k 0, 20, .inl (fun i => nI (va_up OK st.length kn i)))), ((ma 3), .inl (k 0, 800, .inl (fun i => nI (En9 i)))), ((ma 2), .inl (k 0, 4, .inl (fun i => nI (ct i))))]) S hA [4, 5, 6] [0, 1, 2, 3, 7] rfl rfl (by decide) (by decide) (va_runV (As := [.int (nI f9), .int (nI at9)]) (rest := [.int (nI at9)]) ⟨hx, hb, C.2.2.1, C.2.2.2.1, C.2.2.2.2.1⟩ (g_Mo_headOf l G k h0 _ f9 at9 ma (va_up (va_up iv 0 (nI nf)) 2 (nI (st.length + 1))) co tk wd hf (by omega) (wh_five hnf hct hwh hac) htk) (k_virt (n := 2) C wc_Mo_headOf rfl rfl wz_Mo wm_Mo_125 wn_Mo_headOf ws_Mo_headOf (by decide +kernel) ⟨(Nat.le_of_ble_eq_true rfl), (Nat.le_of_ble_eq_true rfl)⟩) (pr_nowV K S [4, 5, 6] (by decide) rfl 4 rfl rfl) rfl rfl hl.1 rfl (lv_room (Nat.le_of_ble_eq_true rfl)) d_Mo_wrong_120 ⟨(Nat.le_of_ble_eq_true rfl), (Nat.le_of_ble_eq_true rfl)⟩) (fun r34 u32 H locs hw33 S => ?_)
      have S : Sw G A s.heap _ _ [((ma 4), .inl (k 0, 20, .inl (fun i => nI (va_up OA st.length at9 i)))), ((ma 5), .inl (k 0, 20, .inl (fun i => nI (va_up OP st.length 0 i)))), ((ma 6), .inl (k 0, 20, .inl (fun i => nI (va_up OK st.length kn i)))), ((ma 3), .inl (k 0, 800, .inl (fun i => nI (En9 i)))), ((ma 2), .inl (k 0, 4, .inl (fun i => nI (ct i)))), (h0, .inr (8, moL ma (va_up (va_up iv 0 (nI nf)) 2 (nI (st.length + 1))) co)), ((ma 0), .inl (k 0, 4, .inl (fun i => nI (tk i)))), ((ma 1), .inl (k 0, 800, .inl wd))] := S
      obtain ⟨hw330, hp35⟩ := hw33
      obtain rfl : r34 = nI (hdN (wdF wd f9) tk at9) := hw330
      refine z_iadd (x := nI at9) (y := nI (hdN (wdF wd f9) tk at9)) (v := nI (at9 + hdN (wdF wd f9) tk at9)) hx hb d_Mo_wrong_123 (nI_add at9 (hdN (wdF wd f9) tk at9)) ?_
      refine lv_istore_n (lv' := [(2, .int (nI (at9 + hdN (wdF wd f9) tk at9))), (3, .int (nI (nodes + 1))), (6, .int (-1)), (5, .int 0), (4, .int (nI kn)), (1, .int (nI f9)), (0, .ref h0)]) hx hb d_Mo_wrong_124 rfl hl (by decide) rfl (fun ls hl => ?_)
      refine lv_aload_n hx hb d_Mo_wrong_125 rfl (lv_at hl 6 rfl) ?_
      refine lv_iload_n hx hb d_Mo_wrong_126 rfl (lv_at hl 5 rfl) ?_
      refine lv_iload_n hx hb d_Mo_wrong_127 rfl (lv_at hl 0 rfl) ?_
      have hs2 : stO ((at9, 0, kn) :: st) (va_up OA st.length at9) (va_up OP st.length 0) (va_up OK st.length kn) := ⟨va_up_self _ _ _, va_up_self _ _ _, va_up_self _ _ _, stO_congr (fun i hi => ⟨va_up_ne _ _ (by omega), va_up_ne _ _ (by omega), va_up_ne _ _ (by omega)⟩) hst⟩
      have hb2 : stB nodes ((at9, 0, kn) :: st) := ⟨by omega, Nat.zero_le _, hsB⟩
      refine r_backi (wi := [(h0, .inr (8, moL ma (va_up (va_up iv 0 (nI nf)) 2 (nI ((at9, 0, kn) :: st).length)) co)), ((ma 1), .inl (k 0, 800, .inl wd)), ((ma 4), .inl (k 0, 20, .inl (fun i => nI (va_up OA st.length at9 i)))), ((ma 5), .inl (k 0, 20, .inl (fun i => nI (va_up OP st.length 0 i)))), ((ma 6), .inl (k 0, 20, .inl (fun i => nI (va_up OK st.length kn i)))), ((ma 3), .inl (k 0, 800, .inl (fun i => nI (En9 i))))]) (wr := [((ma 2), .inl (k 0, 4, .inl (fun i => nI (ct i)))), ((ma 0), .inl (k 0, 4, .inl (fun i => nI (tk i))))]) S hA [5, 7, 0, 1, 2, 3] [4, 6] rfl rfl (by decide) (by decide) (va_runV (As := [.int (nI f9), .int (nI (at9 + hdN (wdF wd f9) tk at9))]) (rest := []) ⟨hx, hb, C.2.2.1, C.2.2.2.1, C.2.2.2.2.1⟩ (g_Mo_close l G k h0 _ f9 (at9 + hdN (wdF wd f9) tk at9) nodes ((at9, 0, kn) :: st) ma (va_up iv 0 (nI nf)) co wd (va_up OA st.length at9) (va_up OP st.length 0) (va_up OK st.length kn) En9 hf (by omega) hs2 hb2 (by omega) (show st.length + 1 ≤ 18 by omega)) (k_virt (n := 2) C wc_Mo_close rfl rfl wz_Mo wm_Mo_129 wn_Mo_close ws_Mo_close (by decide +kernel) ⟨(Nat.le_of_ble_eq_true rfl), (Nat.le_of_ble_eq_true rfl)⟩) (pr_nowV K S [5, 7, 0, 1, 2, 3] (by decide) rfl 5 rfl rfl) rfl rfl hl.1 rfl (lv_room (Nat.le_of_ble_eq_true rfl)) d_Mo_wrong_128 ⟨(Nat.le_of_ble_eq_true rfl), (Nat.le_of_ble_eq_true rfl)⟩) (fun r37 cu H locs hw36 S => ?_)
      have S : Sw G A s.heap _ _ [((ma 2), .inl (k 0, 4, .inl (fun i => nI (ct i)))), ((ma 0), .inl (k 0, 4, .inl (fun i => nI (tk i)))), (h0, .inr (8, moL ma (va_up (va_up iv 0 (nI nf)) 2 (nI cu.2.2.length)) co)), ((ma 1), .inl (k 0, 800, .inl wd)), ((ma 4), .inl (k 0, 20, .inl (fun i => nI ((va_up OA st.length at9) i)))), ((ma 5), .inl (k 0, 20, .inl (fun i => nI (cu.1 i)))), ((ma 6), .inl (k 0, 20, .inl (fun i => nI ((va_up OK st.length kn) i)))), ((ma 3), .inl (k 0, 800, .inl (fun i => nI (cu.2.1 i))))] := S
      obtain ⟨hw360, ⟨hq1, hq2, hq3, hq4, hq5⟩⟩ := hw36
      obtain rfl : r37 = nI (if cu.2.2 = [] then 1 else 0) := hw360
      rw [← hEn] at hclo
      have hcz := hq1.symm.trans hclo
      have hcz1 : cu.2.2 = st2 := congrArg Prod.fst hcz
      have hcz2 : enF cu.2.1 f9 = _ := congrArg Prod.snd hcz
      obtain ⟨x9, rs, hx9⟩ : ∃ x r, cu.2.2 = x :: r := by
        cases hcc : cu.2.2 with
        | nil => exact absurd (hcz1.symm.trans hcc) hne
        | cons x r => exact ⟨x, r, rfl⟩
      obtain ⟨a9, p9, kn9⟩ := x9
      have hxs : st2 = (a9, p9, kn9) :: rs := hcz1.symm.trans hx9
      rw [hx9] at hq2 hq3 hq4 S
      rw [if_neg (by rw [hx9]; simp)]
      show W _ _ _ _ _ _ _ _ _ _ _ _ _ _ _ (F0 m _ ls [.int 0])
      have hq4 : rs.length + 1 ≤ st.length + 1 := hq4
      have hqa := hq3.1
      have hqb := hq3.2.1
      have S : Sw G A s.heap H locs [((ma 2), .inl (k 0, 4, .inl (fun i => nI (ct i)))), ((ma 0), .inl (k 0, 4, .inl (fun i => nI (tk i)))), (h0, .inr (8, moL ma (va_up (va_up iv 0 (nI nf)) 2 (nI (rs.length + 1))) co)), ((ma 1), .inl (k 0, 800, .inl wd)), ((ma 4), .inl (k 0, 20, .inl (fun i => nI ((va_up OA st.length at9) i)))), ((ma 5), .inl (k 0, 20, .inl (fun i => nI (cu.1 i)))), ((ma 6), .inl (k 0, 20, .inl (fun i => nI ((va_up OK st.length kn) i)))), ((ma 3), .inl (k 0, 800, .inl (fun i => nI (cu.2.1 i))))] := S
      refine lv_istore (lv' := [(5, .int 0), (2, .int (nI (at9 + hdN (wdF wd f9) tk at9))), (3, .int (nI (nodes + 1))), (6, .int (-1)), (4, .int (nI kn)), (1, .int (nI f9)), (0, .ref h0)]) hx hb d_Mo_wrong_131 hl (by decide) rfl (fun ls hl => ?_)
      refine lv_iload hx hb d_Mo_wrong_133 (lv_at hl 0 rfl) ?_
      refine lv_if_ne (tgt := 145) hx hb d_Mo_wrong_135 (by decide) (fun hq => absurd (by decide) hq) (fun _ => ?_)
      refine lv_aload_n hx hb d_Mo_wrong_138 rfl (lv_at hl 6 rfl) ?_
      refine lv_iload_n hx hb d_Mo_wrong_139 rfl (lv_at hl 5 rfl) ?_
      refine r_backi (wi := [(h0, .inr (8, moL ma (va_up (va_up iv 0 (nI nf)) 2 (nI (rs.length + 1))) co)), ((ma 1), .inl (k 0, 800, .inl wd)), ((ma 4), .inl (k 0, 20, .inl (fun i => nI ((va_up OA st.length at9) i)))), ((ma 5), .inl (k 0, 20, .inl (fun i => nI (cu.1 i)))), ((ma 6), .inl (k 0, 20, .inl (fun i => nI ((va_up OK st.length kn) i))))]) (wr := [((ma 2), .inl (k 0, 4, .inl (fun i => nI (ct i)))), ((ma 0), .inl (k 0, 4, .inl (fun i => nI (tk i)))), ((ma 3), .inl (k 0, 800, .inl (fun i => nI (cu.2.1 i))))]) S hA [2, 3, 4, 5, 6] [0, 1, 7] rfl rfl (by decide) (by decide) (va_runV (As := [.int (nI f9)]) (rest := []) ⟨hx, hb, C.2.2.1, C.2.2.2.1, C.2.2.2.2.1⟩ (g_Mo_knownBehind l G k h0 _ f9 a9 p9 kn9 rs ma (va_up iv 0 (nI nf)) co wd (va_up OA st.length at9) cu.1 (va_up OK st.length kn) hf hq2 (by omega) (by omega) (by omega)) (k_virt (n := 1) C wc_Mo_knownBehind rfl rfl wz_Mo wm_Mo_133 wn_Mo_knownBehind ws_Mo_knownBehind (by decide +kernel) ⟨(Nat.le_of_ble_eq_true rfl), (Nat.le_of_ble_eq_true rfl)⟩) (pr_nowV K S [2, 3, 4, 5, 6] (by decide) rfl 2 rfl rfl) rfl rfl hl.1 rfl (lv_room (Nat.le_of_ble_eq_true rfl)) d_Mo_wrong_140 ⟨(Nat.le_of_ble_eq_true rfl), (Nat.le_of_ble_eq_true rfl)⟩) (fun r40 u38 H locs hw39 S => ?_)
      have S : Sw G A s.heap _ _ [((ma 2), .inl (k 0, 4, .inl (fun i => nI (ct i)))), ((ma 0), .inl (k 0, 4, .inl (fun i => nI (tk i)))), ((ma 3), .inl (k 0, 800, .inl (fun i => nI (cu.2.1 i)))), (h0, .inr (8, moL ma (va_up (va_up iv 0 (nI nf)) 2 (nI (rs.length + 1))) co)), ((ma 1), .inl (k 0, 800, .inl wd)), ((ma 4), .inl (k 0, 20, .inl (fun i => nI ((va_up OA st.length at9) i)))), ((ma 5), .inl (k 0, 20, .inl (fun i => nI (cu.1 i)))), ((ma 6), .inl (k 0, 20, .inl (fun i => nI ((va_up OK st.length kn) i))))] := S
      obtain ⟨hw390, hp41⟩ := hw39
      obtain rfl : r40 = nI (kbN (wdF wd f9) ((a9, p9, kn9) :: rs)) := hw390
      refine lv_istore (lv' := [(4, .int (nI (kbN (wdF wd f9) ((a9, p9, kn9) :: rs)))), (5, .int 0), (2, .int (nI (at9 + hdN (wdF wd f9) tk at9))), (3, .int (nI (nodes + 1))), (6, .int (-1)), (1, .int (nI f9)), (0, .ref h0)]) hx hb d_Mo_wrong_143 hl (by decide) rfl (fun ls hl => ?_)
      refine lv_goto (tgt := 20) hx hb d_Mo_wrong_145 (by decide) ?_
      exact hP hrr (by omega) (va_up OA st.length at9) cu.1 (va_up OK st.length kn) cu.2.1 hcz2 (by rw [hxs]; exact hq2) (by rw [hxs]; exact hq3) (fun i hi => (hq5 i hi).trans (hou i hi)) _ _ (by rw [hxs]; exact S.sub [3, 1, 4, 0, 5, 6, 7, 2] (by decide) rfl) ls (by rw [hxs]; exact lv_sub hl [1, 0, 3, 2, 5, 6] rfl)
  exact hWL _ key ⟨rfl, rfl⟩ (by omega) OA OP OK En rfl trivial trivial (fun _ _ => rfl) _ _ (S.sub [0, 1, 2, 3, 4, 5, 6, 7] (by decide) rfl) ls (lv_sub hl [0, 1, 2, 3, 5, 4] rfl)
