theorem cg_sa {l : Launch} {y : MethodName} {cc : ByteArray} {n : Nat} {ret : Option FieldType} {rm : Room} {as : List Value} {G : va_G} {k : Nat → ClassId} {sz sl : Nat} {mc ms : Nat} {S : Type} {rv : S → Option Value} {post : S → Prop} {wi t : va_W} {wo tu : S → va_W} {cu nu : S → Nat} (wf : va_W) (h : CG l y cc n ret rm as G k sz sl (wi ++ t) rv post (fun u => wo u ++ tu u) cu nu mc ms) : CG l y cc n ret rm as G k sz sl (wi ++ (wf ++ t)) rv post (fun u => wo u ++ (wf ++ tu u)) cu nu mc ms := by
  have f := cg_frame wf h
  refine cg_imp (cg_perm (wi' := wi ++ (wf ++ t)) ?_ f) (fun u hu => ⟨u, hu, rfl, ?_, Nat.le_refl _, Nat.le_refl _⟩)
  · rw [List.append_assoc]
    exact List.Perm.append_left _ List.perm_append_comm
  · rw [List.append_assoc]
    exact List.Perm.append_left _ List.perm_append_comm
def toI (it un co : Nat) (w : Int32) : Int32 := if it = 0 ∨ w < 0 ∨ ¬ w ≤ 1 then -2 else if w = 0 then nI un else nI co
theorem d_PB_told_0 : decode c_PB_told 0 = .ok (.aload_n 0, 1) := by decide +kernel
theorem d_PB_told_1 : decode c_PB_told 1 = .ok (.getfield 103, 3) := by decide +kernel
theorem d_PB_told_4 : decode c_PB_told 4 = .ok (.ifCond .eq 12, 3) := by decide +kernel
theorem d_PB_told_7 : decode c_PB_told 7 = .ok (.iload_n 1, 1) := by decide +kernel
theorem d_PB_told_8 : decode c_PB_told 8 = .ok (.ifCond .lt 8, 3) := by decide +kernel
theorem d_PB_told_11 : decode c_PB_told 11 = .ok (.iload_n 1, 1) := by decide +kernel
theorem d_PB_told_12 : decode c_PB_told 12 = .ok (.iconst 1, 1) := by decide +kernel
theorem d_PB_told_13 : decode c_PB_told 13 = .ok (.if_icmp .le 6, 3) := by decide +kernel
theorem d_PB_told_16 : decode c_PB_told 16 = .ok (.bipush (-2), 2) := by decide +kernel
theorem d_PB_told_18 : decode c_PB_told 18 = .ok (.ireturn, 1) := by decide +kernel
theorem d_PB_told_19 : decode c_PB_told 19 = .ok (.iload_n 1, 1) := by decide +kernel
theorem d_PB_told_20 : decode c_PB_told 20 = .ok (.ifCond .ne 13, 3) := by decide +kernel
theorem d_PB_told_23 : decode c_PB_told 23 = .ok (.aload_n 0, 1) := by decide +kernel
theorem d_PB_told_24 : decode c_PB_told 24 = .ok (.getfield 53, 3) := by decide +kernel
theorem d_PB_told_27 : decode c_PB_told 27 = .ok (.getfield 127, 3) := by decide +kernel
theorem d_PB_told_30 : decode c_PB_told 30 = .ok (.goto 10, 3) := by decide +kernel
theorem d_PB_told_33 : decode c_PB_told 33 = .ok (.aload_n 0, 1) := by decide +kernel
theorem d_PB_told_34 : decode c_PB_told 34 = .ok (.getfield 53, 3) := by decide +kernel
theorem d_PB_told_37 : decode c_PB_told 37 = .ok (.getfield 130, 3) := by decide +kernel
theorem d_PB_told_40 : decode c_PB_told 40 = .ok (.ireturn, 1) := by decide +kernel
set_option maxRecDepth 100000 in
set_option maxHeartbeats 16000000 in
/-- told -/
theorem g_PB_told (l : Launch) (G : va_G) (k : Nat → ClassId) (h0 : Nat) (s0 sl : Nat) (w9 : Int32) (ca : Nat) (cr : Nat) (cu : Nat) (cne : Nat) (cs : Nat) (cb : Nat) (nf : Nat) (it : Nat) (wp : Int32) (nfo : Nat) (ncd : Nat) (nsp : Nat) (nno : Nat) (nsm : Nat) (nbr : Nat) (nbs : Nat) (nbd : Nat) (un9 : Nat) (co9 : Nat) (fl9 : Nat) (hit : it ≤ 1) : CG l y_PB_told c_PB_told 2 (some .int) { frames := 0, cells := 0, slots := 0, locals := 0 } [.ref h0, .int w9] G k s0 sl [(h0, .inr (0, [.ref ca, .ref cr, .ref cu, .ref cne, .ref cs, .ref cb, .int (nI nf), .int wp, .int (nI it)])), (cne, .inr (7, [.ref ca, .ref nfo, .ref ncd, .ref nsp, .ref nno, .ref nsm, .ref nbr, .ref nbs, .ref nbd, .int (nI un9), .int (nI co9), .int (nI fl9)]))] (fun (u : Unit) => some (.int (toI it un9 co9 w9))) (fun (u : Unit) => True) (fun (u : Unit) => [(h0, .inr (0, [.ref ca, .ref cr, .ref cu, .ref cne, .ref cs, .ref cb, .int (nI nf), .int wp, .int (nI it)])), (cne, .inr (7, [.ref ca, .ref nfo, .ref ncd, .ref nsp, .ref nno, .ref nsm, .ref nbr, .ref nbs, .ref nbd, .int (nI un9), .int (nI co9), .int (nI fl9)]))]) (fun (u : Unit) => 0) (fun (u : Unit) => 0) 0 0 := by
  refine met_startG (by decide) (Nat.le_of_ble_eq_true rfl) ?_
  intro p e s m below meth c C K hA hsz S ls hl
  generalize va_A [(h0, .inr (0, [.ref ca, .ref cr, .ref cu, .ref cne, .ref cs, .ref cb, .int (nI nf), .int wp, .int (nI it)])), (cne, .inr (7, [.ref ca, .ref nfo, .ref ncd, .ref nsp, .ref nno, .ref nsm, .ref nbr, .ref nbs, .ref nbd, .int (nI un9), .int (nI co9), .int (nI fl9)]))] s0 = A at hA S ⊢
  have hx := C.1
  have hb := C.2.1
  have hl : lv_has ls 2 [(0, .ref h0), (1, .int w9)] := hl
  refine lv_aload_n hx hb d_PB_told_0 rfl (lv_at hl 0 rfl) ?_
  refine r_get C K S 0 rfl rfl clOk_PB 8 (by decide) wf_PB_103 (v := .int (nI it)) rfl d_PB_told_1 ?_
  refine z_if_eq (a := it) (tgt := 16) hx hb d_PB_told_4 (by decide) (by omega) (fun hc1 => ?_) (fun hc1 => ?_)
  · refine lv_bipush (v := (-2)) hx hb d_PB_told_16 (by decide) ?_
    exact q_iret C K hsz rfl () (by unfold toI; rw [if_pos (Or.inl (by omega))]) trivial (S.sub [0, 1] (by decide) rfl) d_PB_told_18 (Nat.zero_le _) (Nat.zero_le _) (Nat.zero_le _) (Nat.zero_le _)
  · refine lv_iload_n hx hb d_PB_told_7 rfl (lv_at hl 1 rfl) ?_
    refine lv_if_lt (tgt := 16) hx hb d_PB_told_8 (by decide) (fun hc2 => ?_) (fun hc2 => ?_)
    · refine lv_bipush (v := (-2)) hx hb d_PB_told_16 (by decide) ?_
      exact q_iret C K hsz rfl () (by unfold toI; rw [if_pos (Or.inr (Or.inl hc2))]) trivial (S.sub [0, 1] (by decide) rfl) d_PB_told_18 (Nat.zero_le _) (Nat.zero_le _) (Nat.zero_le _) (Nat.zero_le _)
    · refine lv_iload_n hx hb d_PB_told_11 rfl (lv_at hl 1 rfl) ?_
      refine lv_iconst (v := 1) hx hb d_PB_told_12 (by decide) ?_
      refine lv_icmp_le (tgt := 19) hx hb d_PB_told_13 (by decide) (fun hc3 => ?_) (fun hc3 => ?_)
      · refine lv_iload_n hx hb d_PB_told_19 rfl (lv_at hl 1 rfl) ?_
        refine lv_if_ne (tgt := 33) hx hb d_PB_told_20 (by decide) (fun hc4 => ?_) (fun hc4 => ?_)
        · refine lv_aload_n hx hb d_PB_told_33 rfl (lv_at hl 0 rfl) ?_
          refine r_get C K S 0 rfl rfl clOk_PB 3 (by decide) wf_PB_53 (v := .ref cne) rfl d_PB_told_34 ?_
          refine r_getN C K S 1 rfl rfl clOk_Ne 10 (by decide) xf_PB_130 (v := .int (nI co9)) rfl d_PB_told_37 ?_
          exact q_iret C K hsz rfl () (by unfold toI; rw [if_neg (by rintro (q | q | q); omega; exact hc2 q; exact q hc3), if_neg hc4]) trivial (S.sub [0, 1] (by decide) rfl) d_PB_told_40 (Nat.zero_le _) (Nat.zero_le _) (Nat.zero_le _) (Nat.zero_le _)
        · refine lv_aload_n hx hb d_PB_told_23 rfl (lv_at hl 0 rfl) ?_
          refine r_get C K S 0 rfl rfl clOk_PB 3 (by decide) wf_PB_53 (v := .ref cne) rfl d_PB_told_24 ?_
          refine r_getN C K S 1 rfl rfl clOk_Ne 9 (by decide) xf_PB_127 (v := .int (nI un9)) rfl d_PB_told_27 ?_
          refine lv_goto (tgt := 40) hx hb d_PB_told_30 (by decide) ?_
          exact q_iret C K hsz rfl () (by unfold toI; rw [if_neg (by rintro (q | q | q); omega; exact hc2 q; exact q hc3), if_pos hc4]) trivial (S.sub [0, 1] (by decide) rfl) d_PB_told_40 (Nat.zero_le _) (Nat.zero_le _) (Nat.zero_le _) (Nat.zero_le _)
      · refine lv_bipush (v := (-2)) hx hb d_PB_told_16 (by decide) ?_
        exact q_iret C K hsz rfl () (by unfold toI; rw [if_pos (Or.inr (Or.inr hc3))]) trivial (S.sub [0, 1] (by decide) rfl) d_PB_told_18 (Nat.zero_le _) (Nat.zero_le _) (Nat.zero_le _) (Nat.zero_le _)
theorem i32_40 {x : Int32} (h1 : ¬ x < 0) (h2 : ¬ (40 : Int32) < x) : ∃ j, j ≤ 40 ∧ x = nI j := by
  have e0 : (0 : Int32).toInt = 0 := by decide
  have e1 : (40 : Int32).toInt = 40 := by decide
  rw [Int32.lt_iff_toInt_lt, e0] at h1
  rw [Int32.lt_iff_toInt_lt, e1] at h2
  refine ⟨x.toInt.toNat, by omega, Int32.toInt_inj.mp ?_⟩
  rw [i32_nn (by omega)]
  omega
theorem i32_pos {x : Int32} (h1 : ¬ x < 0) : ∃ j, j < 2147483648 ∧ x = nI j := by
  have e0 : (0 : Int32).toInt = 0 := by decide
  have h2 := x.toInt_lt
  rw [Int32.lt_iff_toInt_lt, e0] at h1
  refine ⟨x.toInt.toNat, by omega, Int32.toInt_inj.mp ?_⟩
  rw [i32_nn (by omega)]
  omega
theorem d_PB_scaled_0 : decode c_PB_scaled 0 = .ok (.iload_n 2, 1) := by decide +kernel
theorem d_PB_scaled_1 : decode c_PB_scaled 1 = .ok (.ifCond .lt 20, 3) := by decide +kernel
theorem d_PB_scaled_4 : decode c_PB_scaled 4 = .ok (.iload_n 2, 1) := by decide +kernel
theorem d_PB_scaled_5 : decode c_PB_scaled 5 = .ok (.bipush 40, 2) := by decide +kernel
theorem d_PB_scaled_7 : decode c_PB_scaled 7 = .ok (.if_icmp .gt 14, 3) := by decide +kernel
theorem d_PB_scaled_10 : decode c_PB_scaled 10 = .ok (.aload_n 0, 1) := by decide +kernel
theorem d_PB_scaled_11 : decode c_PB_scaled 11 = .ok (.getfield 25, 3) := by decide +kernel
theorem d_PB_scaled_14 : decode c_PB_scaled 14 = .ok (.iload_n 1, 1) := by decide +kernel
theorem d_PB_scaled_15 : decode c_PB_scaled 15 = .ok (.invokevirtual 133, 3) := by decide +kernel
theorem d_PB_scaled_18 : decode c_PB_scaled 18 = .ok (.ifCond .ne 7, 3) := by decide +kernel
theorem d_PB_scaled_21 : decode c_PB_scaled 21 = .ok (.ldc2_w 136, 3) := by decide +kernel
theorem d_PB_scaled_24 : decode c_PB_scaled 24 = .ok (.lreturn, 1) := by decide +kernel
theorem d_PB_scaled_25 : decode c_PB_scaled 25 = .ok (.aload_n 0, 1) := by decide +kernel
theorem d_PB_scaled_26 : decode c_PB_scaled 26 = .ok (.getfield 25, 3) := by decide +kernel
theorem d_PB_scaled_29 : decode c_PB_scaled 29 = .ok (.iload_n 1, 1) := by decide +kernel
theorem d_PB_scaled_30 : decode c_PB_scaled 30 = .ok (.iload_n 2, 1) := by decide +kernel
theorem d_PB_scaled_31 : decode c_PB_scaled 31 = .ok (.invokevirtual 138, 3) := by decide +kernel
theorem d_PB_scaled_34 : decode c_PB_scaled 34 = .ok (.lreturn, 1) := by decide +kernel
set_option maxRecDepth 100000 in
set_option maxHeartbeats 16000000 in
/-- scaled -/
theorem g_PB_scaled (l : Launch) (G : va_G) (k : Nat → ClassId) (h0 : Nat) (s0 sl : Nat) (xi9 : Int32) (xk9 : Int32) (ca : Nat) (cr : Nat) (cu : Nat) (cne : Nat) (cs : Nat) (cb : Nat) (nf : Nat) (it : Nat) (wp : Int32) (pta : Nat) (bu9 : Nat) (bs9 : Nat) (bf9 : Nat) (bp9 : Nat) (br9 : Nat) (fo9 : Nat) (bt9 : Nat) (pa : Nat → Nat) (N9 : Nat) (st : Nat → Option wQ) (Z : Nat → Int) (hN : N9 = 3745) (hh : hO st Z) (hb0 : ∀ j, j < 4 → atO st (3736 + j) (pa j)) (hb1 : atO st 3740 bu9) (hb2 : atO st 3741 bs9) (hb3 : atO st 3742 bf9) (hb4 : atO st 3743 bp9) (hb5 : atO st 3744 br9) (hfo : fo9 ≤ 1) (hbt : bt9 ≤ 3) : CG l y_PB_scaled c_PB_scaled 3 (some .long) { frames := 6, cells := pt st N9 + 400, slots := 2 * pt st N9 + 800, locals := 179 } [.ref h0, .int xi9, .int xk9] G k s0 sl ([(h0, .inr (0, [.ref ca, .ref cr, .ref cu, .ref cne, .ref cs, .ref cb, .int (nI nf), .int wp, .int (nI it)])), (cb, .inr (3, [.ref pta, .ref bu9, .ref bs9, .ref bf9, .ref bp9, .ref br9, .int (nI fo9), .int (nI bt9)])), (pta, .inl (k 4, 4, .inr (.inr (.inr (.inr (fun j => some (pa j)))))))] ++ (tpl k st N9)) (fun (u : (Nat → Option wQ) × Int64) => some (.long u.2)) (fun (u : (Nat → Option wQ) × Int64) => hO u.1 Z ∧ keO st u.1 ∧ pt u.1 N9 ≤ pt st N9 ∧ saO st u.1) (fun (u : (Nat → Option wQ) × Int64) => ([(h0, .inr (0, [.ref ca, .ref cr, .ref cu, .ref cne, .ref cs, .ref cb, .int (nI nf), .int wp, .int (nI it)])), (cb, .inr (3, [.ref pta, .ref bu9, .ref bs9, .ref bf9, .ref bp9, .ref br9, .int (nI fo9), .int (nI bt9)])), (pta, .inl (k 4, 4, .inr (.inr (.inr (.inr (fun j => some (pa j)))))))] ++ (tpl k u.1 N9))) (fun (u : (Nat → Option wQ) × Int64) => pt st N9 - pt u.1 N9) (fun (u : (Nat → Option wQ) × Int64) => 2 * (pt st N9 - pt u.1 N9)) (pt st N9 + 400) (2 * pt st N9 + 800) := by
  refine met_startG (by decide) (Nat.le_of_ble_eq_true rfl) ?_
  intro p e s m below meth c C K hA hsz S ls hl
  generalize va_A ([(h0, .inr (0, [.ref ca, .ref cr, .ref cu, .ref cne, .ref cs, .ref cb, .int (nI nf), .int wp, .int (nI it)])), (cb, .inr (3, [.ref pta, .ref bu9, .ref bs9, .ref bf9, .ref bp9, .ref br9, .int (nI fo9), .int (nI bt9)])), (pta, .inl (k 4, 4, .inr (.inr (.inr (.inr (fun j => some (pa j)))))))] ++ (tpl k st N9)) s0 = A at hA S ⊢
  have hx := C.1
  have hb := C.2.1
  have hl : lv_has ls 3 [(0, .ref h0), (1, .int xi9), (2, .int xk9)] := hl
  refine lv_iload_n hx hb d_PB_scaled_0 rfl (lv_at hl 2 rfl) ?_
  refine lv_if_lt (tgt := 21) hx hb d_PB_scaled_1 (by decide) (fun hc1 => ?_) (fun hc1 => ?_)
  · refine lv_ldc2 (v := (-2)) hx hb C.2.2.2.1 (C.2.2.2.2.1 _ wk_PB_136) d_PB_scaled_21 ?_
    exact q_lret C K hsz (st, -2) rfl (show hO st Z ∧ keO st st ∧ pt st N9 ≤ pt st N9 ∧ saO st st from ⟨hh, keO.rf st, Nat.le_refl _, rfl⟩) (S.subP [0, 1, 2] (by decide) rfl) d_PB_scaled_24 (Nat.zero_le _) (Nat.zero_le _) (Nat.zero_le _) (Nat.zero_le _)
  · refine lv_iload_n hx hb d_PB_scaled_4 rfl (lv_at hl 2 rfl) ?_
    refine lv_bipush (v := 40) hx hb d_PB_scaled_5 (by decide) ?_
    refine lv_icmp_gt (tgt := 21) hx hb d_PB_scaled_7 (by decide) (fun hc2 => ?_) (fun hc2 => ?_)
    · refine lv_ldc2 (v := (-2)) hx hb C.2.2.2.1 (C.2.2.2.2.1 _ wk_PB_136) d_PB_scaled_21 ?_
      exact q_lret C K hsz (st, -2) rfl (show hO st Z ∧ keO st st ∧ pt st N9 ≤ pt st N9 ∧ saO st st from ⟨hh, keO.rf st, Nat.le_refl _, rfl⟩) (S.subP [0, 1, 2] (by decide) rfl) d_PB_scaled_24 (Nat.zero_le _) (Nat.zero_le _) (Nat.zero_le _) (Nat.zero_le _)
    · refine lv_aload_n hx hb d_PB_scaled_10 rfl (lv_at hl 0 rfl) ?_
      refine r_get C K S 0 rfl rfl clOk_PB 5 (by decide) wf_PB_25 (v := .ref cb) rfl d_PB_scaled_11 ?_
      refine lv_iload_n hx hb d_PB_scaled_14 rfl (lv_at hl 1 rfl) ?_
      refine q_backP (wi := [(cb, .inr (3, [.ref pta, .ref bu9, .ref bs9, .ref bf9, .ref bp9, .ref br9, .int (nI fo9), .int (nI bt9)]))]) (wr := [(h0, .inr (0, [.ref ca, .ref cr, .ref cu, .ref cne, .ref cs, .ref cb, .int (nI nf), .int wp, .int (nI it)])), (pta, .inl (k 4, 4, .inr (.inr (.inr (.inr (fun j => some (pa j)))))))]) S hA [1] [0, 2] rfl rfl (by decide) (by decide) (va_runVN (As := [.int xi9]) (rest := []) ⟨hx, hb, C.2.2.1, C.2.2.2.1, C.2.2.2.2.1⟩ (cg_frame (tpl k st N9) (g_Be_has l G k cb _ _ xi9 pta bu9 bs9 bf9 bp9 br9 fo9 bt9 pa hfo hbt)) (k_virtN (n := 1) C K wc_Be_has rfl rfl wz_Be xm_PB_133 wn_Be_has ws_Be_has (by decide +kernel) ⟨(Nat.le_of_ble_eq_true rfl), (Nat.le_of_ble_eq_true rfl)⟩) (pr_nowVGP K S [1] (by decide) rfl (List.mem_append_left _ (List.mem_of_getElem? (i := 1) rfl)) rfl) rfl rfl hl.1 rfl (lv_room (Nat.le_of_ble_eq_true rfl)) d_PB_scaled_15 ⟨(Nat.zero_le _), (Nat.zero_le _)⟩) (fun ha9 H locs hw3 S => ?_)
      have S : Sw G A s.heap _ _ ([(h0, .inr (0, [.ref ca, .ref cr, .ref cu, .ref cne, .ref cs, .ref cb, .int (nI nf), .int wp, .int (nI it)])), (pta, .inl (k 4, 4, .inr (.inr (.inr (.inr (fun j => some (pa j))))))), (cb, .inr (3, [.ref pta, .ref bu9, .ref bs9, .ref bf9, .ref bp9, .ref br9, .int (nI fo9), .int (nI bt9)]))] ++ (tpl k st N9)) := S
      have hw3 : ha9 ≤ 1 ∧ (ha9 = 1 → fo9 = 1 ∧ ∃ j, j < 4 ∧ xi9 = nI j) := hw3
      show W p l e _ s m _ below meth c H locs _ _ _ (F0 m 18 ls [.int (nI ha9)])
      have hhas := hw3
      refine z_if_ne (a := ha9) (tgt := 25) hx hb d_PB_scaled_18 (by decide) (by omega) (fun hc4 => ?_) (fun hc4 => ?_)
      · obtain ⟨hf1, qi, lqi, eqi⟩ := hhas.2 (by omega)
        obtain ⟨qk, lqk, eqk⟩ := i32_40 hc1 hc2
        refine lv_aload_n hx hb d_PB_scaled_25 rfl (lv_at hl 0 rfl) ?_
        refine r_get C K S 0 rfl rfl clOk_PB 5 (by decide) wf_PB_25 (v := .ref cb) rfl d_PB_scaled_26 ?_
        refine lv_iload_n hx hb d_PB_scaled_29 rfl (lv_at hl 1 rfl) ?_
        refine z_topi (y := nI qi) eqi ?_
        refine lv_iload_n hx hb d_PB_scaled_30 rfl (lv_at hl 2 rfl) ?_
        refine z_topi (y := nI qk) eqk ?_
        refine q_backP (wi := [(cb, .inr (3, [.ref pta, .ref bu9, .ref bs9, .ref bf9, .ref bp9, .ref br9, .int (nI fo9), .int (nI bt9)])), (pta, .inl (k 4, 4, .inr (.inr (.inr (.inr (fun j => some (pa j)))))))]) (wr := [(h0, .inr (0, [.ref ca, .ref cr, .ref cu, .ref cne, .ref cs, .ref cb, .int (nI nf), .int wp, .int (nI it)]))]) S hA [2, 1] [0] rfl rfl (by decide) (by decide) (va_runVN (As := [.int (nI qi), .int (nI qk)]) (rest := []) ⟨hx, hb, C.2.2.1, C.2.2.2.1, C.2.2.2.2.1⟩ (g_Be_doubled l G k cb _ _ qi qk pta bu9 bs9 bf9 bp9 br9 fo9 bt9 pa N9 st Z hN hh hb0 hb1 hb2 hb3 hb4 hb5 lqi lqk) (k_virtN (n := 2) C K wc_Be_doubled rfl rfl wz_Be xm_PB_138 wn_Be_doubled ws_Be_doubled (by decide +kernel) ⟨(Nat.le_of_ble_eq_true rfl), (Nat.le_of_ble_eq_true rfl)⟩) (pr_nowVGP K S [2, 1] (by decide) rfl (List.mem_append_left _ (List.mem_of_getElem? (i := 2) rfl)) rfl) rfl rfl hl.1 rfl (lv_room (Nat.le_of_ble_eq_true rfl)) d_PB_scaled_31 ⟨(show 0 + (pt st N9 + 400) ≤ pt st N9 + 400 from by omega), (show 0 + (2 * pt st N9 + 800) ≤ 2 * pt st N9 + 800 from by omega)⟩) (fun db9 H locs hw5 S => ?_)
        have S : Sw G A s.heap _ _ ([(h0, .inr (0, [.ref ca, .ref cr, .ref cu, .ref cne, .ref cs, .ref cb, .int (nI nf), .int wp, .int (nI it)])), (cb, .inr (3, [.ref pta, .ref bu9, .ref bs9, .ref bf9, .ref bp9, .ref br9, .int (nI fo9), .int (nI bt9)])), (pta, .inl (k 4, 4, .inr (.inr (.inr (.inr (fun j => some (pa j)))))))] ++ (tpl k db9.1 N9)) := S
        have hw5 : hO db9.1 Z ∧ keO st db9.1 ∧ pt db9.1 N9 ≤ pt st N9 ∧ saO st db9.1 := hw5
        show W p l e _ s m _ below meth c H locs _ _ _ (F0 m 34 ls [.long db9.2])
        obtain ⟨hh6, ke7, pt8, sa9⟩ := hw5
        exact q_lret C K hsz (db9.1, db9.2) rfl (show hO db9.1 Z ∧ keO st db9.1 ∧ pt db9.1 N9 ≤ pt st N9 ∧ saO st db9.1 from ⟨⟨hh6.1, hh6.2⟩, ke7, by omega, sa9⟩) (S.subP [0, 1, 2] (by decide) rfl) d_PB_scaled_34 (show 0 + (pt st N9 - pt db9.1 N9) ≤ pt st N9 - pt db9.1 N9 from by omega) (show 0 + (2 * (pt st N9 - pt db9.1 N9)) ≤ 2 * (pt st N9 - pt db9.1 N9) from by omega) (show 0 + (pt st N9 - pt db9.1 N9) ≤ pt st N9 + 400 from by omega) (show 0 + (2 * (pt st N9 - pt db9.1 N9)) ≤ 2 * pt st N9 + 800 from by omega)
      · refine lv_ldc2 (v := (-2)) hx hb C.2.2.2.1 (C.2.2.2.2.1 _ wk_PB_136) d_PB_scaled_21 ?_
        exact q_lret C K hsz (st, -2) rfl (show hO st Z ∧ keO st st ∧ pt st N9 ≤ pt st N9 ∧ saO st st from ⟨hh, keO.rf st, Nat.le_refl _, rfl⟩) (S.subP [0, 2, 1] (by decide) rfl) d_PB_scaled_24 (Nat.zero_le _) (Nat.zero_le _) (Nat.zero_le _) (Nat.zero_le _)
theorem d_PB_covers_0 : decode c_PB_covers 0 = .ok (.aload_n 0, 1) := by decide +kernel
theorem d_PB_covers_1 : decode c_PB_covers 1 = .ok (.getfield 25, 3) := by decide +kernel
theorem d_PB_covers_4 : decode c_PB_covers 4 = .ok (.getfield 107, 3) := by decide +kernel
theorem d_PB_covers_7 : decode c_PB_covers 7 = .ok (.ifCond .eq 15, 3) := by decide +kernel
theorem d_PB_covers_10 : decode c_PB_covers 10 = .ok (.iload_n 1, 1) := by decide +kernel
theorem d_PB_covers_11 : decode c_PB_covers 11 = .ok (.ifCond .lt 11, 3) := by decide +kernel
theorem d_PB_covers_14 : decode c_PB_covers 14 = .ok (.iload_n 2, 1) := by decide +kernel
theorem d_PB_covers_15 : decode c_PB_covers 15 = .ok (.ifCond .lt 7, 3) := by decide +kernel
theorem d_PB_covers_18 : decode c_PB_covers 18 = .ok (.iload_n 3, 1) := by decide +kernel
theorem d_PB_covers_19 : decode c_PB_covers 19 = .ok (.ifCond .ge 6, 3) := by decide +kernel
theorem d_PB_covers_22 : decode c_PB_covers 22 = .ok (.bipush (-2), 2) := by decide +kernel
theorem d_PB_covers_24 : decode c_PB_covers 24 = .ok (.ireturn, 1) := by decide +kernel
theorem d_PB_covers_25 : decode c_PB_covers 25 = .ok (.aload_n 0, 1) := by decide +kernel
theorem d_PB_covers_26 : decode c_PB_covers 26 = .ok (.getfield 25, 3) := by decide +kernel
theorem d_PB_covers_29 : decode c_PB_covers 29 = .ok (.iload_n 1, 1) := by decide +kernel
theorem d_PB_covers_30 : decode c_PB_covers 30 = .ok (.iload_n 2, 1) := by decide +kernel
theorem d_PB_covers_31 : decode c_PB_covers 31 = .ok (.iload_n 3, 1) := by decide +kernel
theorem d_PB_covers_32 : decode c_PB_covers 32 = .ok (.lload 4, 2) := by decide +kernel
theorem d_PB_covers_34 : decode c_PB_covers 34 = .ok (.invokevirtual 142, 3) := by decide +kernel
theorem d_PB_covers_37 : decode c_PB_covers 37 = .ok (.ifCond .eq 7, 3) := by decide +kernel
theorem d_PB_covers_40 : decode c_PB_covers 40 = .ok (.iconst 1, 1) := by decide +kernel
theorem d_PB_covers_41 : decode c_PB_covers 41 = .ok (.goto 4, 3) := by decide +kernel
theorem d_PB_covers_44 : decode c_PB_covers 44 = .ok (.iconst 0, 1) := by decide +kernel
theorem d_PB_covers_45 : decode c_PB_covers 45 = .ok (.ireturn, 1) := by decide +kernel
set_option maxRecDepth 100000 in
set_option maxHeartbeats 16000000 in
/-- covers -/
theorem g_PB_covers (l : Launch) (G : va_G) (k : Nat → ClassId) (h0 : Nat) (s0 sl : Nat) (xa9 : Int32) (xb9 : Int32) (xc9 : Int32) (xn9 : Int64) (ca : Nat) (cr : Nat) (cu : Nat) (cne : Nat) (cs : Nat) (cb : Nat) (nf : Nat) (it : Nat) (wp : Int32) (pta : Nat) (bu9 : Nat) (bs9 : Nat) (bf9 : Nat) (bp9 : Nat) (br9 : Nat) (fo9 : Nat) (bt9 : Nat) (pa : Nat → Nat) (N9 : Nat) (st : Nat → Option wQ) (Z : Nat → Int) (hN : N9 = 3745) (hh : hO st Z) (hb0 : ∀ j, j < 4 → atO st (3736 + j) (pa j)) (hb1 : atO st 3740 bu9) (hb2 : atO st 3741 bs9) (hb3 : atO st 3742 bf9) (hb4 : atO st 3743 bp9) (hb5 : atO st 3744 br9) (hfo : fo9 ≤ 1) (hbt : bt9 ≤ 3) : CG l y_PB_covers c_PB_covers 6 (some .int) { frames := 7, cells := pt st N9 + 400, slots := 2 * pt st N9 + 800, locals := 198 } [.ref h0, .int xa9, .int xb9, .int xc9, .long xn9] G k s0 sl ([(h0, .inr (0, [.ref ca, .ref cr, .ref cu, .ref cne, .ref cs, .ref cb, .int (nI nf), .int wp, .int (nI it)])), (cb, .inr (3, [.ref pta, .ref bu9, .ref bs9, .ref bf9, .ref bp9, .ref br9, .int (nI fo9), .int (nI bt9)])), (pta, .inl (k 4, 4, .inr (.inr (.inr (.inr (fun j => some (pa j)))))))] ++ (tpl k st N9)) (fun (u : (Nat → Option wQ) × Int32) => some (.int u.2)) (fun (u : (Nat → Option wQ) × Int32) => hO u.1 Z ∧ keO st u.1 ∧ pt u.1 N9 ≤ pt st N9 ∧ saO st u.1) (fun (u : (Nat → Option wQ) × Int32) => ([(h0, .inr (0, [.ref ca, .ref cr, .ref cu, .ref cne, .ref cs, .ref cb, .int (nI nf), .int wp, .int (nI it)])), (cb, .inr (3, [.ref pta, .ref bu9, .ref bs9, .ref bf9, .ref bp9, .ref br9, .int (nI fo9), .int (nI bt9)])), (pta, .inl (k 4, 4, .inr (.inr (.inr (.inr (fun j => some (pa j)))))))] ++ (tpl k u.1 N9))) (fun (u : (Nat → Option wQ) × Int32) => pt st N9 - pt u.1 N9) (fun (u : (Nat → Option wQ) × Int32) => 2 * (pt st N9 - pt u.1 N9)) (pt st N9 + 400) (2 * pt st N9 + 800) := by
  refine met_startG (by decide) (Nat.le_of_ble_eq_true rfl) ?_
  intro p e s m below meth c C K hA hsz S ls hl
  generalize va_A ([(h0, .inr (0, [.ref ca, .ref cr, .ref cu, .ref cne, .ref cs, .ref cb, .int (nI nf), .int wp, .int (nI it)])), (cb, .inr (3, [.ref pta, .ref bu9, .ref bs9, .ref bf9, .ref bp9, .ref br9, .int (nI fo9), .int (nI bt9)])), (pta, .inl (k 4, 4, .inr (.inr (.inr (.inr (fun j => some (pa j)))))))] ++ (tpl k st N9)) s0 = A at hA S ⊢
  have hx := C.1
  have hb := C.2.1
  have hl : lv_has ls 6 [(0, .ref h0), (1, .int xa9), (2, .int xb9), (3, .int xc9), (4, .long xn9)] := hl
  refine lv_aload_n hx hb d_PB_covers_0 rfl (lv_at hl 0 rfl) ?_
  refine r_get C K S 0 rfl rfl clOk_PB 5 (by decide) wf_PB_25 (v := .ref cb) rfl d_PB_covers_1 ?_
  refine r_getN C K S 1 rfl rfl clOk_Be 6 (by decide) xf_PB_107 (v := .int (nI fo9)) rfl d_PB_covers_4 ?_
  refine z_if_eq (a := fo9) (tgt := 22) hx hb d_PB_covers_7 (by decide) (by omega) (fun hc1 => ?_) (fun hc1 => ?_)
  · refine lv_bipush (v := (-2)) hx hb d_PB_covers_22 (by decide) ?_
    exact q_iret (v := (-2)) (rv := (fun (u : (Nat → Option wQ) × Int32) => some (.int u.2))) (post := (fun (u : (Nat → Option wQ) × Int32) => hO u.1 Z ∧ keO st u.1 ∧ pt u.1 N9 ≤ pt st N9 ∧ saO st u.1)) (wo := (fun (u : (Nat → Option wQ) × Int32) => ([(h0, .inr (0, [.ref ca, .ref cr, .ref cu, .ref cne, .ref cs, .ref cb, .int (nI nf), .int wp, .int (nI it)])), (cb, .inr (3, [.ref pta, .ref bu9, .ref bs9, .ref bf9, .ref bp9, .ref br9, .int (nI fo9), .int (nI bt9)])), (pta, .inl (k 4, 4, .inr (.inr (.inr (.inr (fun j => some (pa j)))))))] ++ (tpl k u.1 N9)))) (cu := (fun (u : (Nat → Option wQ) × Int32) => pt st N9 - pt u.1 N9)) (nu := (fun (u : (Nat → Option wQ) × Int32) => 2 * (pt st N9 - pt u.1 N9))) C K hsz rfl (st, -2) rfl (show hO st Z ∧ keO st st ∧ pt st N9 ≤ pt st N9 ∧ saO st st from ⟨hh, keO.rf st, Nat.le_refl _, rfl⟩) (S.subP [0, 1, 2] (by decide) rfl) d_PB_covers_24 (Nat.zero_le _) (Nat.zero_le _) (Nat.zero_le _) (Nat.zero_le _)
  · refine lv_iload_n hx hb d_PB_covers_10 rfl (lv_at hl 1 rfl) ?_
    refine lv_if_lt (tgt := 22) hx hb d_PB_covers_11 (by decide) (fun hc2 => ?_) (fun hc2 => ?_)
    · refine lv_bipush (v := (-2)) hx hb d_PB_covers_22 (by decide) ?_
      exact q_iret (v := (-2)) (rv := (fun (u : (Nat → Option wQ) × Int32) => some (.int u.2))) (post := (fun (u : (Nat → Option wQ) × Int32) => hO u.1 Z ∧ keO st u.1 ∧ pt u.1 N9 ≤ pt st N9 ∧ saO st u.1)) (wo := (fun (u : (Nat → Option wQ) × Int32) => ([(h0, .inr (0, [.ref ca, .ref cr, .ref cu, .ref cne, .ref cs, .ref cb, .int (nI nf), .int wp, .int (nI it)])), (cb, .inr (3, [.ref pta, .ref bu9, .ref bs9, .ref bf9, .ref bp9, .ref br9, .int (nI fo9), .int (nI bt9)])), (pta, .inl (k 4, 4, .inr (.inr (.inr (.inr (fun j => some (pa j)))))))] ++ (tpl k u.1 N9)))) (cu := (fun (u : (Nat → Option wQ) × Int32) => pt st N9 - pt u.1 N9)) (nu := (fun (u : (Nat → Option wQ) × Int32) => 2 * (pt st N9 - pt u.1 N9))) C K hsz rfl (st, -2) rfl (show hO st Z ∧ keO st st ∧ pt st N9 ≤ pt st N9 ∧ saO st st from ⟨hh, keO.rf st, Nat.le_refl _, rfl⟩) (S.subP [0, 1, 2] (by decide) rfl) d_PB_covers_24 (Nat.zero_le _) (Nat.zero_le _) (Nat.zero_le _) (Nat.zero_le _)
    · refine lv_iload_n hx hb d_PB_covers_14 rfl (lv_at hl 2 rfl) ?_
      refine lv_if_lt (tgt := 22) hx hb d_PB_covers_15 (by decide) (fun hc3 => ?_) (fun hc3 => ?_)
      · refine lv_bipush (v := (-2)) hx hb d_PB_covers_22 (by decide) ?_
        exact q_iret (v := (-2)) (rv := (fun (u : (Nat → Option wQ) × Int32) => some (.int u.2))) (post := (fun (u : (Nat → Option wQ) × Int32) => hO u.1 Z ∧ keO st u.1 ∧ pt u.1 N9 ≤ pt st N9 ∧ saO st u.1)) (wo := (fun (u : (Nat → Option wQ) × Int32) => ([(h0, .inr (0, [.ref ca, .ref cr, .ref cu, .ref cne, .ref cs, .ref cb, .int (nI nf), .int wp, .int (nI it)])), (cb, .inr (3, [.ref pta, .ref bu9, .ref bs9, .ref bf9, .ref bp9, .ref br9, .int (nI fo9), .int (nI bt9)])), (pta, .inl (k 4, 4, .inr (.inr (.inr (.inr (fun j => some (pa j)))))))] ++ (tpl k u.1 N9)))) (cu := (fun (u : (Nat → Option wQ) × Int32) => pt st N9 - pt u.1 N9)) (nu := (fun (u : (Nat → Option wQ) × Int32) => 2 * (pt st N9 - pt u.1 N9))) C K hsz rfl (st, -2) rfl (show hO st Z ∧ keO st st ∧ pt st N9 ≤ pt st N9 ∧ saO st st from ⟨hh, keO.rf st, Nat.le_refl _, rfl⟩) (S.subP [0, 1, 2] (by decide) rfl) d_PB_covers_24 (Nat.zero_le _) (Nat.zero_le _) (Nat.zero_le _) (Nat.zero_le _)
      · refine lv_iload_n hx hb d_PB_covers_18 rfl (lv_at hl 3 rfl) ?_
        refine lv_if_ge (tgt := 25) hx hb d_PB_covers_19 (by decide) (fun hc4 => ?_) (fun hc4 => ?_)
        · obtain ⟨qa, lqa, eqa⟩ := i32_pos hc2
          obtain ⟨qb, lqb, eqb⟩ := i32_pos hc3
          obtain ⟨qc, lqc, eqc⟩ := i32_pos (Int32.not_lt.mpr hc4)
          have bn1 := xn9.le_toInt
          have bn2 := xn9.toInt_lt
          have hxn : xn9 = lZ xn9.toInt := Int64.toInt_inj.mp (by rw [lZ_toInt (by omega) (by omega)])
          refine lv_aload_n hx hb d_PB_covers_25 rfl (lv_at hl 0 rfl) ?_
          refine r_get C K S 0 rfl rfl clOk_PB 5 (by decide) wf_PB_25 (v := .ref cb) rfl d_PB_covers_26 ?_
          refine lv_iload_n hx hb d_PB_covers_29 rfl (lv_at hl 1 rfl) ?_
          refine z_topi (y := nI qa) eqa ?_
          refine lv_iload_n hx hb d_PB_covers_30 rfl (lv_at hl 2 rfl) ?_
          refine z_topi (y := nI qb) eqb ?_
          refine lv_iload_n hx hb d_PB_covers_31 rfl (lv_at hl 3 rfl) ?_
          refine z_topi (y := nI qc) eqc ?_
          refine lv_lload hx hb d_PB_covers_32 (lv_at hl 4 rfl) ?_
          refine z_topl (y := lZ xn9.toInt) hxn ?_
          refine q_backP (wi := [(cb, .inr (3, [.ref pta, .ref bu9, .ref bs9, .ref bf9, .ref bp9, .ref br9, .int (nI fo9), .int (nI bt9)])), (pta, .inl (k 4, 4, .inr (.inr (.inr (.inr (fun j => some (pa j)))))))]) (wr := [(h0, .inr (0, [.ref ca, .ref cr, .ref cu, .ref cne, .ref cs, .ref cb, .int (nI nf), .int wp, .int (nI it)]))]) S hA [1, 2] [0] rfl rfl (by decide) (by decide) (va_runVN (As := [.int (nI qa), .int (nI qb), .int (nI qc), .long (lZ xn9.toInt)]) (rest := []) ⟨hx, hb, C.2.2.1, C.2.2.2.1, C.2.2.2.2.1⟩ (g_Be_reaches l G k cb _ _ qa qb qc xn9.toInt pta bu9 bs9 bf9 bp9 br9 fo9 bt9 pa N9 st Z hN hh hb0 hb1 hb2 hb3 hb4 hb5 lqa lqb lqc hbt (by omega) (by omega)) (k_virtN (n := 4) C K wc_Be_reaches rfl rfl wz_Be xm_PB_142 wn_Be_reaches ws_Be_reaches (by decide +kernel) ⟨(Nat.le_of_ble_eq_true rfl), (Nat.le_of_ble_eq_true rfl)⟩) (pr_nowVGP K S [1, 2] (by decide) rfl (List.mem_append_left _ (List.mem_of_getElem? (i := 1) rfl)) rfl) rfl rfl hl.1 rfl (lv_room (Nat.le_of_ble_eq_true rfl)) d_PB_covers_34 ⟨(show 0 + (pt st N9 + 400) ≤ pt st N9 + 400 from by omega), (show 0 + (2 * pt st N9 + 800) ≤ 2 * pt st N9 + 800 from by omega)⟩) (fun rc9 H locs hw5 S => ?_)
          have S : Sw G A s.heap _ _ ([(h0, .inr (0, [.ref ca, .ref cr, .ref cu, .ref cne, .ref cs, .ref cb, .int (nI nf), .int wp, .int (nI it)])), (cb, .inr (3, [.ref pta, .ref bu9, .ref bs9, .ref bf9, .ref bp9, .ref br9, .int (nI fo9), .int (nI bt9)])), (pta, .inl (k 4, 4, .inr (.inr (.inr (.inr (fun j => some (pa j)))))))] ++ (tpl k rc9.1 N9)) := S
          have hw5 : hO rc9.1 Z ∧ keO st rc9.1 ∧ pt rc9.1 N9 ≤ pt st N9 ∧ saO st rc9.1 ∧ rc9.2 ≤ 1 := hw5
          show W p l e _ s m _ below meth c H locs _ _ _ (F0 m 37 ls [.int (nI rc9.2)])
          obtain ⟨hh6, ke7, pt8, hsa1, hr1⟩ := hw5
          refine z_if_eq (a := rc9.2) (tgt := 44) hx hb d_PB_covers_37 (by decide) (by omega) (fun hc9 => ?_) (fun hc9 => ?_)
          · refine lv_iconst (v := 0) hx hb d_PB_covers_44 (by decide) ?_
            exact q_iret (v := 0) (rv := (fun (u : (Nat → Option wQ) × Int32) => some (.int u.2))) (post := (fun (u : (Nat → Option wQ) × Int32) => hO u.1 Z ∧ keO st u.1 ∧ pt u.1 N9 ≤ pt st N9 ∧ saO st u.1)) (wo := (fun (u : (Nat → Option wQ) × Int32) => ([(h0, .inr (0, [.ref ca, .ref cr, .ref cu, .ref cne, .ref cs, .ref cb, .int (nI nf), .int wp, .int (nI it)])), (cb, .inr (3, [.ref pta, .ref bu9, .ref bs9, .ref bf9, .ref bp9, .ref br9, .int (nI fo9), .int (nI bt9)])), (pta, .inl (k 4, 4, .inr (.inr (.inr (.inr (fun j => some (pa j)))))))] ++ (tpl k u.1 N9)))) (cu := (fun (u : (Nat → Option wQ) × Int32) => pt st N9 - pt u.1 N9)) (nu := (fun (u : (Nat → Option wQ) × Int32) => 2 * (pt st N9 - pt u.1 N9))) C K hsz rfl (rc9.1, 0) rfl (show hO rc9.1 Z ∧ keO st rc9.1 ∧ pt rc9.1 N9 ≤ pt st N9 ∧ saO st rc9.1 from ⟨⟨hh6.1, hh6.2⟩, ke7, by omega, hsa1⟩) (S.subP [0, 1, 2] (by decide) rfl) d_PB_covers_45 (show 0 + (pt st N9 - pt rc9.1 N9) ≤ pt st N9 - pt rc9.1 N9 from by omega) (show 0 + (2 * (pt st N9 - pt rc9.1 N9)) ≤ 2 * (pt st N9 - pt rc9.1 N9) from by omega) (show 0 + (pt st N9 - pt rc9.1 N9) ≤ pt st N9 + 400 from by omega) (show 0 + (2 * (pt st N9 - pt rc9.1 N9)) ≤ 2 * pt st N9 + 800 from by omega)
          · refine lv_iconst (v := 1) hx hb d_PB_covers_40 (by decide) ?_
            refine lv_goto (tgt := 45) hx hb d_PB_covers_41 (by decide) ?_
            exact q_iret (v := 1) (rv := (fun (u : (Nat → Option wQ) × Int32) => some (.int u.2))) (post := (fun (u : (Nat → Option wQ) × Int32) => hO u.1 Z ∧ keO st u.1 ∧ pt u.1 N9 ≤ pt st N9 ∧ saO st u.1)) (wo := (fun (u : (Nat → Option wQ) × Int32) => ([(h0, .inr (0, [.ref ca, .ref cr, .ref cu, .ref cne, .ref cs, .ref cb, .int (nI nf), .int wp, .int (nI it)])), (cb, .inr (3, [.ref pta, .ref bu9, .ref bs9, .ref bf9, .ref bp9, .ref br9, .int (nI fo9), .int (nI bt9)])), (pta, .inl (k 4, 4, .inr (.inr (.inr (.inr (fun j => some (pa j)))))))] ++ (tpl k u.1 N9)))) (cu := (fun (u : (Nat → Option wQ) × Int32) => pt st N9 - pt u.1 N9)) (nu := (fun (u : (Nat → Option wQ) × Int32) => 2 * (pt st N9 - pt u.1 N9))) C K hsz rfl (rc9.1, 1) rfl (show hO rc9.1 Z ∧ keO st rc9.1 ∧ pt rc9.1 N9 ≤ pt st N9 ∧ saO st rc9.1 from ⟨⟨hh6.1, hh6.2⟩, ke7, by omega, hsa1⟩) (S.subP [0, 1, 2] (by decide) rfl) d_PB_covers_45 (show 0 + (pt st N9 - pt rc9.1 N9) ≤ pt st N9 - pt rc9.1 N9 from by omega) (show 0 + (2 * (pt st N9 - pt rc9.1 N9)) ≤ 2 * (pt st N9 - pt rc9.1 N9) from by omega) (show 0 + (pt st N9 - pt rc9.1 N9) ≤ pt st N9 + 400 from by omega) (show 0 + (2 * (pt st N9 - pt rc9.1 N9)) ≤ 2 * pt st N9 + 800 from by omega)
        · refine lv_bipush (v := (-2)) hx hb d_PB_covers_22 (by decide) ?_
          exact q_iret (v := (-2)) (rv := (fun (u : (Nat → Option wQ) × Int32) => some (.int u.2))) (post := (fun (u : (Nat → Option wQ) × Int32) => hO u.1 Z ∧ keO st u.1 ∧ pt u.1 N9 ≤ pt st N9 ∧ saO st u.1)) (wo := (fun (u : (Nat → Option wQ) × Int32) => ([(h0, .inr (0, [.ref ca, .ref cr, .ref cu, .ref cne, .ref cs, .ref cb, .int (nI nf), .int wp, .int (nI it)])), (cb, .inr (3, [.ref pta, .ref bu9, .ref bs9, .ref bf9, .ref bp9, .ref br9, .int (nI fo9), .int (nI bt9)])), (pta, .inl (k 4, 4, .inr (.inr (.inr (.inr (fun j => some (pa j)))))))] ++ (tpl k u.1 N9)))) (cu := (fun (u : (Nat → Option wQ) × Int32) => pt st N9 - pt u.1 N9)) (nu := (fun (u : (Nat → Option wQ) × Int32) => 2 * (pt st N9 - pt u.1 N9))) C K hsz rfl (st, -2) rfl (show hO st Z ∧ keO st st ∧ pt st N9 ≤ pt st N9 ∧ saO st st from ⟨hh, keO.rf st, Nat.le_refl _, rfl⟩) (S.subP [0, 1, 2] (by decide) rfl) d_PB_covers_24 (Nat.zero_le _) (Nat.zero_le _) (Nat.zero_le _) (Nat.zero_le _)
