set_option maxRecDepth 100000 in
set_option maxHeartbeats 16000000 in
/-- beginOne, too long -/
theorem g_Mo_beginOne_l (l : Launch) (G : va_G) (k : Nat → ClassId) (h0 : Nat) (s0 : Nat) (stp : Nat) (ma : Nat → Nat) (iv : Nat → Int32) (co : Int64) (hst : stp = 20000) : CV l y_Mo_beginOne c_Mo_beginOne 6 { frames := 0, cells := 0, slots := 0, locals := 0 } [.ref h0] G k s0 [(h0, .inr (8, moL ma (va_up iv 4 (nI stp)) co))] (fun (u : Unit) => True) (fun u => [(h0, .inr (8, moL ma (va_up (va_up iv 4 (nI stp)) 11 1) co))]) 0 0 := by
  refine met_start (by decide) (Nat.le_of_ble_eq_true rfl) ?_
  intro p e s m below meth c C K hA hsz S ls hl
  generalize va_A [(h0, .inr (8, moL ma (va_up iv 4 (nI stp)) co))] s0 = A at hA S ⊢
  have hx := C.1
  have hb := C.2.1
  have hl : lv_has ls 6 [(0, .ref h0)] := hl
  refine lv_aload_n hx hb d_Mo_beginOne_0 rfl (lv_at hl 0 rfl) ?_
  refine r_get C K S 0 rfl rfl clOk_Mo 12 (by decide) wf_Mo_165 (v := .int (nI stp)) rfl d_Mo_beginOne_1 ?_
  refine lv_sipush (v := 20000) hx hb d_Mo_beginOne_4 (by decide) ?_
  refine z_icmp_ne (a := stp) (b := 20000) (tgt := 16) hx hb d_Mo_beginOne_7 (by decide) (by omega) (by omega) (fun hc1 => False.elim (by omega)) (fun hc1 => ?_)
  refine lv_aload_n hx hb d_Mo_beginOne_10 rfl (lv_at hl 0 rfl) ?_
  refine lv_iconst (v := 1) hx hb d_Mo_beginOne_11 (by decide) ?_
  refine r_put C K S 0 rfl rfl clOk_Mo 25 (by decide) wf_Mo_158 rfl (ty := .boolean) (v := .int 1) (by decide +kernel) rfl rfl (Nat.le_of_ble_eq_true rfl) (fs' := moL ma (va_up (va_up iv 4 (nI stp)) 11 1) co) (ws' := [(h0, .inr (8, moL ma (va_up (va_up iv 4 (nI stp)) 11 1) co))]) rfl rfl d_Mo_beginOne_12 (fun H locs S => ?_)
  exact r_vret C K () trivial (S.sub [0] (by decide) rfl) d_Mo_beginOne_15 (Nat.le_of_ble_eq_true rfl) (Nat.le_of_ble_eq_true rfl)
set_option maxRecDepth 100000 in
set_option maxHeartbeats 16000000 in
/-- beginOne, a call -/
theorem g_Mo_beginOne_5 (l : Launch) (G : va_G) (k : Nat → ClassId) (h0 : Nat) (s0 : Nat) (fn : Nat) (pa : Nat) (stp : Nat) (g9 : Nat) (vs : Nat → Nat) (bs : Nat) (kn : Nat) (wt : Nat) (cl : Nat) (WK : Nat → Nat) (WF : Nat → Nat) (WA : Nat → Nat) (WB : Nat → Nat) (WN : Nat → Nat) (tk : Nat → Nat) (vr : Nat → Int32) (ma : Nat → Nat) (iv : Nat → Int32) (co : Int64) (wd : Nat → Int32) (hfn : fn < 4) (hst : stp < 20000) (hpa : pa + 2 + tk g9 ≤ 200) (hv : wdF wd fn (pa + 1) = nI g9) (hg : g9 < 4) (hvs : ∀ k9, k9 < tk g9 → wdF wd fn (pa + 2 + k9) = nI (vs k9) ∧ vs k9 < kn) (htg : tk g9 ≤ 3) (hbs : bs + kn + 3 ≤ 1400) (hwt : wt < 1200) (hcl : cl < 60) (hk : wdF wd fn pa = 5) : CV l y_Mo_beginOne c_Mo_beginOne 6 { frames := 1, cells := 0, slots := 0, locals := 22 } [.ref h0] G k s0 [(h0, .inr (8, moL ma (va_up (va_up (va_up (va_up (va_up (va_up (va_up iv 8 (nI fn)) 9 (nI pa)) 4 (nI stp)) 6 (nI bs)) 7 (nI kn)) 5 (nI wt)) 10 (nI cl)) co)), ((ma 1), .inl (k 0, 800, .inl wd)), ((ma 0), .inl (k 0, 4, .inl (fun i => nI (tk i)))), ((ma 12), .inl (k 0, 1400, .inl vr)), ((ma 7), .inl (k 0, 1200, .inl (fun i => nI (WK i)))), ((ma 8), .inl (k 0, 1200, .inl (fun i => nI (WF i)))), ((ma 9), .inl (k 0, 1200, .inl (fun i => nI (WA i)))), ((ma 10), .inl (k 0, 1200, .inl (fun i => nI (WB i)))), ((ma 11), .inl (k 0, 1200, .inl (fun i => nI (WN i))))] (fun (u : Nat → Int32) => (∀ j9, j9 < tk g9 → u (bs + kn + j9) = vr (bs + vs j9)) ∧ ∀ x, x < bs + kn → u x = vr x) (fun u => [(h0, .inr (8, moL ma (va_up (va_up (va_up (va_up (va_up (va_up (va_up iv 4 (nI (stp + 1))) 5 (nI (wt + 1))) 10 (nI (cl + 1))) 8 (nI g9)) 9 0) 6 (nI (bs + kn))) 7 (nI (tk g9))) co)), ((ma 1), .inl (k 0, 800, .inl wd)), ((ma 0), .inl (k 0, 4, .inl (fun i => nI (tk i)))), ((ma 12), .inl (k 0, 1400, .inl u)), ((ma 7), .inl (k 0, 1200, .inl (fun i => nI ((va_up WK wt 2) i)))), ((ma 8), .inl (k 0, 1200, .inl (fun i => nI ((va_up WF wt fn) i)))), ((ma 9), .inl (k 0, 1200, .inl (fun i => nI ((va_up WA wt 0) i)))), ((ma 10), .inl (k 0, 1200, .inl (fun i => nI ((va_up WB wt bs) i)))), ((ma 11), .inl (k 0, 1200, .inl (fun i => nI ((va_up WN wt kn) i))))]) 0 0 := by
  refine met_start (by decide) (Nat.le_of_ble_eq_true rfl) ?_
  intro p e s m below meth c C K hA hsz S ls hl
  generalize va_A [(h0, .inr (8, moL ma (va_up (va_up (va_up (va_up (va_up (va_up (va_up iv 8 (nI fn)) 9 (nI pa)) 4 (nI stp)) 6 (nI bs)) 7 (nI kn)) 5 (nI wt)) 10 (nI cl)) co)), ((ma 1), .inl (k 0, 800, .inl wd)), ((ma 0), .inl (k 0, 4, .inl (fun i => nI (tk i)))), ((ma 12), .inl (k 0, 1400, .inl vr)), ((ma 7), .inl (k 0, 1200, .inl (fun i => nI (WK i)))), ((ma 8), .inl (k 0, 1200, .inl (fun i => nI (WF i)))), ((ma 9), .inl (k 0, 1200, .inl (fun i => nI (WA i)))), ((ma 10), .inl (k 0, 1200, .inl (fun i => nI (WB i)))), ((ma 11), .inl (k 0, 1200, .inl (fun i => nI (WN i))))] s0 = A at hA S ⊢
  have hx := C.1
  have hb := C.2.1
  have hl : lv_has ls 6 [(0, .ref h0)] := hl
  refine lv_aload_n hx hb d_Mo_beginOne_0 rfl (lv_at hl 0 rfl) ?_
  refine r_get C K S 0 rfl rfl clOk_Mo 12 (by decide) wf_Mo_165 (v := .int (nI stp)) rfl d_Mo_beginOne_1 ?_
  refine lv_sipush (v := 20000) hx hb d_Mo_beginOne_4 (by decide) ?_
  refine z_icmp_ne (a := stp) (b := 20000) (tgt := 16) hx hb d_Mo_beginOne_7 (by decide) (by omega) (by omega) (fun hc1 => ?_) (fun hc1 => False.elim (by omega))
  refine lv_aload_n hx hb d_Mo_beginOne_16 rfl (lv_at hl 0 rfl) ?_
  refine lv_dup hx hb d_Mo_beginOne_17 rfl ?_
  refine r_get C K S 0 rfl rfl clOk_Mo 12 (by decide) wf_Mo_165 (v := .int (nI stp)) rfl d_Mo_beginOne_18 ?_
  refine lv_iconst (v := 1) hx hb d_Mo_beginOne_21 (by decide) ?_
  refine z_iadd (x := nI stp) (y := 1) (v := nI (stp + 1)) hx hb d_Mo_beginOne_22 (nI_add stp 1) ?_
  refine r_put C K S 0 rfl rfl clOk_Mo 12 (by decide) wf_Mo_165 rfl (ty := .int) (v := .int (nI (stp + 1))) (by decide +kernel) rfl rfl (Nat.le_of_ble_eq_true rfl) (fs' := moL ma (va_up (va_up (va_up (va_up (va_up (va_up (va_up iv 8 (nI fn)) 9 (nI pa)) 6 (nI bs)) 7 (nI kn)) 5 (nI wt)) 10 (nI cl)) 4 (nI (stp + 1))) co) (ws' := [(h0, .inr (8, moL ma (va_up (va_up (va_up (va_up (va_up (va_up (va_up iv 8 (nI fn)) 9 (nI pa)) 6 (nI bs)) 7 (nI kn)) 5 (nI wt)) 10 (nI cl)) 4 (nI (stp + 1))) co)), ((ma 1), .inl (k 0, 800, .inl wd)), ((ma 0), .inl (k 0, 4, .inl (fun i => nI (tk i)))), ((ma 12), .inl (k 0, 1400, .inl vr)), ((ma 7), .inl (k 0, 1200, .inl (fun i => nI (WK i)))), ((ma 8), .inl (k 0, 1200, .inl (fun i => nI (WF i)))), ((ma 9), .inl (k 0, 1200, .inl (fun i => nI (WA i)))), ((ma 10), .inl (k 0, 1200, .inl (fun i => nI (WB i)))), ((ma 11), .inl (k 0, 1200, .inl (fun i => nI (WN i))))]) rfl rfl d_Mo_beginOne_23 (fun H locs S => ?_)
  refine lv_sipush (v := 200) hx hb d_Mo_beginOne_26 (by decide) ?_
  refine lv_aload_n hx hb d_Mo_beginOne_29 rfl (lv_at hl 0 rfl) ?_
  refine r_get C K S 0 rfl rfl clOk_Mo 22 (by decide) wf_Mo_146 (v := .int (nI fn)) rfl d_Mo_beginOne_30 ?_
  refine z_imul (x := 200) (y := nI fn) (v := nI (200 * fn)) hx hb d_Mo_beginOne_33 (pk_mul 200 fn) ?_
  refine lv_aload_n hx hb d_Mo_beginOne_34 rfl (lv_at hl 0 rfl) ?_
  refine r_get C K S 0 rfl rfl clOk_Mo 23 (by decide) wf_Mo_162 (v := .int (nI pa)) rfl d_Mo_beginOne_35 ?_
  refine z_iadd (x := nI (200 * fn)) (y := nI pa) (v := nI (200 * fn + pa)) hx hb d_Mo_beginOne_38 (nI_add (200 * fn) pa) ?_
  refine lv_istore_n (lv' := [(1, .int (nI (200 * fn + pa))), (0, .ref h0)]) hx hb d_Mo_beginOne_39 rfl hl (by decide) rfl (fun ls hl => ?_)
  refine lv_aload_n hx hb d_Mo_beginOne_40 rfl (lv_at hl 1 rfl) ?_
  refine r_get C K S 0 rfl rfl clOk_Mo 2 (by decide) wf_Mo_13 (v := .ref (ma 1)) rfl d_Mo_beginOne_41 ?_
  refine lv_iload_n hx hb d_Mo_beginOne_44 rfl (lv_at hl 0 rfl) ?_
  refine lv_iconst (v := 1) hx hb d_Mo_beginOne_45 (by decide) ?_
  refine z_iadd (x := nI (200 * fn + pa)) (y := 1) (v := nI (200 * fn + pa + 1)) hx hb d_Mo_beginOne_46 (nI_add (200 * fn + pa) 1) ?_
  refine lv_sipush (v := 800) hx hb d_Mo_beginOne_47 (by decide) ?_
  refine z_icmp_ge (a := (200 * fn + pa + 1)) (b := 800) (tgt := 59) hx hb d_Mo_beginOne_50 (by decide) (by omega) (by omega) (fun hc2 => False.elim (by omega)) (fun hc2 => ?_)
  refine lv_iload_n hx hb d_Mo_beginOne_53 rfl (lv_at hl 0 rfl) ?_
  refine lv_iconst (v := 1) hx hb d_Mo_beginOne_54 (by decide) ?_
  refine z_iadd (x := nI (200 * fn + pa)) (y := 1) (v := nI (200 * fn + pa + 1)) hx hb d_Mo_beginOne_55 (nI_add (200 * fn + pa) 1) ?_
  refine lv_goto (tgt := 60) hx hb d_Mo_beginOne_56 (by decide) ?_
  refine r_iald C K S 1 rfl (i := nI (200 * fn + pa + 1)) (show vp_in (nI (200 * fn + pa + 1)) _ from vp_in_nI (n := (200 * fn + pa + 1)) (by omega) (by decide)) (v := wdF wd fn (pa + 1)) (by rw [nI_clamp (by omega)]; exact (show wd (200 * fn + pa + 1) = wd (200 * fn + (pa + 1)) from congrArg wd (by omega))) d_Mo_beginOne_60 ?_
  rw [hv]
  refine lv_istore_n (lv' := [(2, .int (nI g9)), (1, .int (nI (200 * fn + pa))), (0, .ref h0)]) hx hb d_Mo_beginOne_61 rfl hl (by decide) rfl (fun ls hl => ?_)
  refine lv_aload_n hx hb d_Mo_beginOne_62 rfl (lv_at hl 2 rfl) ?_
  refine r_get C K S 0 rfl rfl clOk_Mo 2 (by decide) wf_Mo_13 (v := .ref (ma 1)) rfl d_Mo_beginOne_63 ?_
  refine lv_iload_n hx hb d_Mo_beginOne_66 rfl (lv_at hl 1 rfl) ?_
  refine r_iald C K S 1 rfl (i := nI (200 * fn + pa)) (show vp_in (nI (200 * fn + pa)) _ from vp_in_nI (n := (200 * fn + pa)) (by omega) (by decide)) (v := wdF wd fn pa) (by rw [nI_clamp (by omega)]; exact (show wd (200 * fn + pa) = wd (200 * fn + pa) from congrArg wd (by omega))) d_Mo_beginOne_67 ?_
  refine lv_tableIn (x := wdF wd fn pa) (off := 180) (tgt := 248) hx hb d_Mo_beginOne_68 (by rw [hk]; decide) (by rw [hk]; decide) (by rw [hk]; rfl) (by decide) ?_
  refine lv_aload_n hx hb d_Mo_beginOne_248 rfl (lv_at hl 2 rfl) ?_
  refine r_get C K S 0 rfl rfl clOk_Mo 20 (by decide) wf_Mo_149 (v := .int (nI bs)) rfl d_Mo_beginOne_249 ?_
  refine lv_aload_n hx hb d_Mo_beginOne_252 rfl (lv_at hl 2 rfl) ?_
  refine r_get C K S 0 rfl rfl clOk_Mo 21 (by decide) wf_Mo_152 (v := .int (nI kn)) rfl d_Mo_beginOne_253 ?_
  refine z_iadd (x := nI bs) (y := nI kn) (v := nI (bs + kn)) hx hb d_Mo_beginOne_256 (nI_add bs kn) ?_
  refine lv_istore (lv' := [(4, .int (nI (bs + kn))), (2, .int (nI g9)), (1, .int (nI (200 * fn + pa))), (0, .ref h0)]) hx hb d_Mo_beginOne_257 hl (by decide) rfl (fun ls hl => ?_)
  refine lv_iconst (v := 0) hx hb d_Mo_beginOne_259 (by decide) ?_
  refine lv_istore (lv' := [(5, .int 0), (4, .int (nI (bs + kn))), (2, .int (nI g9)), (1, .int (nI (200 * fn + pa))), (0, .ref h0)]) hx hb d_Mo_beginOne_260 hl (by decide) rfl (fun ls hl => ?_)
  have lp : ∀ d9, ∀ (k9 : Nat), ∀ (vr9 : Nat → Int32), (tk g9 - k9) < d9 → (k9 ≤ tk g9) → (∀ j9, j9 < k9 → vr9 (bs + kn + j9) = vr (bs + vs j9)) → (∀ x, x < bs + kn → vr9 x = vr x) → ∀ (H : Heap) (locs : List Loc), Sw G A s.heap H locs [(h0, .inr (8, moL ma (va_up (va_up (va_up (va_up (va_up (va_up (va_up iv 8 (nI fn)) 9 (nI pa)) 6 (nI bs)) 7 (nI kn)) 5 (nI wt)) 10 (nI cl)) 4 (nI (stp + 1))) co)), ((ma 1), .inl (k 0, 800, .inl wd)), ((ma 0), .inl (k 0, 4, .inl (fun i => nI (tk i)))), ((ma 12), .inl (k 0, 1400, .inl vr9)), ((ma 7), .inl (k 0, 1200, .inl (fun i => nI (WK i)))), ((ma 8), .inl (k 0, 1200, .inl (fun i => nI (WF i)))), ((ma 9), .inl (k 0, 1200, .inl (fun i => nI (WA i)))), ((ma 10), .inl (k 0, 1200, .inl (fun i => nI (WB i)))), ((ma 11), .inl (k 0, 1200, .inl (fun i => nI (WN i))))] → ∀ ls : Array Slot, lv_has ls 6 [(5, .int (nI k9)), (4, .int (nI (bs + kn))), (2, .int (nI g9)), (1, .int (nI (200 * fn + pa))), (0, .ref h0)] → W p l e { frames := 1, cells := 0, slots := 0, locals := 22 } s m [Value.ref h0].toArray below meth c H locs 0 0 (MQ below (va_Qv (fun (u : Nat → Int32) => (∀ j9, j9 < tk g9 → u (bs + kn + j9) = vr (bs + vs j9)) ∧ ∀ x, x < bs + kn → u x = vr x) (Po G k A (fun u => [(h0, .inr (8, moL ma (va_up (va_up (va_up (va_up (va_up (va_up (va_up iv 4 (nI (stp + 1))) 5 (nI (wt + 1))) 10 (nI (cl + 1))) 8 (nI g9)) 9 0) 6 (nI (bs + kn))) 7 (nI (tk g9))) co)), ((ma 1), .inl (k 0, 800, .inl wd)), ((ma 0), .inl (k 0, 4, .inl (fun i => nI (tk i)))), ((ma 12), .inl (k 0, 1400, .inl u)), ((ma 7), .inl (k 0, 1200, .inl (fun i => nI ((va_up WK wt 2) i)))), ((ma 8), .inl (k 0, 1200, .inl (fun i => nI ((va_up WF wt fn) i)))), ((ma 9), .inl (k 0, 1200, .inl (fun i => nI ((va_up WA wt 0) i)))), ((ma 10), .inl (k 0, 1200, .inl (fun i => nI ((va_up WB wt bs) i)))), ((ma 11), .inl (k 0, 1200, .inl (fun i => nI ((va_up WN wt kn) i))))])) A) [Value.ref h0].toArray s 0 0 A) (F0 m 262 ls []) := by
    intro d9
    induction d9 with
    | zero => intro k9 vr9 hm; exact absurd hm (Nat.not_lt_zero _)
    | succ d9 ih_lp =>
      intro k9 vr9 hm hk9 hc ho H locs S ls hl
      refine lv_iload hx hb d_Mo_beginOne_262 (lv_at hl 0 rfl) ?_
      refine lv_aload_n hx hb d_Mo_beginOne_264 rfl (lv_at hl 4 rfl) ?_
      refine r_get C K S 0 rfl rfl clOk_Mo 1 (by decide) wf_Mo_9 (v := .ref (ma 0)) rfl d_Mo_beginOne_265 ?_
      refine lv_iload_n hx hb d_Mo_beginOne_268 rfl (lv_at hl 2 rfl) ?_
      refine r_iald C K S 2 rfl (i := nI g9) (show vp_in (nI g9) _ from vp_in_nI (n := g9) (by omega) (by decide)) (v := nI (tk g9)) (by rw [nI_clamp (by omega)]) d_Mo_beginOne_269 ?_
      refine z_icmp_ge (a := k9) (b := (tk g9)) (tgt := 310) hx hb d_Mo_beginOne_270 (by decide) (by omega) (by omega) (fun hc3 => ?_) (fun hc3 => ?_)
      · refine lv_aload_n hx hb d_Mo_beginOne_310 rfl (lv_at hl 4 rfl) ?_
        refine lv_iconst (v := 2) hx hb d_Mo_beginOne_311 (by decide) ?_
        refine lv_iconst (v := 0) hx hb d_Mo_beginOne_312 (by decide) ?_
        refine r_backv (wi := [(h0, .inr (8, moL ma (va_up (va_up (va_up (va_up (va_up (va_up (va_up iv 9 (nI pa)) 10 (nI cl)) 4 (nI (stp + 1))) 8 (nI fn)) 6 (nI bs)) 7 (nI kn)) 5 (nI wt)) co)), ((ma 7), .inl (k 0, 1200, .inl (fun i => nI (WK i)))), ((ma 8), .inl (k 0, 1200, .inl (fun i => nI (WF i)))), ((ma 9), .inl (k 0, 1200, .inl (fun i => nI (WA i)))), ((ma 10), .inl (k 0, 1200, .inl (fun i => nI (WB i)))), ((ma 11), .inl (k 0, 1200, .inl (fun i => nI (WN i))))]) (wr := [((ma 1), .inl (k 0, 800, .inl wd)), ((ma 0), .inl (k 0, 4, .inl (fun i => nI (tk i)))), ((ma 12), .inl (k 0, 1400, .inl vr9))]) S hA [0, 4, 5, 6, 7, 8] [1, 2, 3] rfl rfl (by decide) (by decide) (va_runV (As := [.int 2, .int 0]) (rest := []) ⟨hx, hb, C.2.2.1, C.2.2.2.1, C.2.2.2.2.1⟩ (g_Mo_wait l G k h0 _ 2 0 fn bs kn wt ma (va_up (va_up (va_up iv 9 (nI pa)) 10 (nI cl)) 4 (nI (stp + 1))) co WK WF WA WB WN hwt) (k_virt (n := 2) C wc_Mo_wait rfl rfl wz_Mo wm_Mo_171 wn_Mo_wait ws_Mo_wait (by decide +kernel) ⟨(Nat.le_of_ble_eq_true rfl), (Nat.le_of_ble_eq_true rfl)⟩) (pr_nowV K S [0, 4, 5, 6, 7, 8] (by decide) rfl 0 rfl rfl) rfl rfl hl.1 rfl (lv_room (Nat.le_of_ble_eq_true rfl)) d_Mo_beginOne_313 ⟨(Nat.le_of_ble_eq_true rfl), (Nat.le_of_ble_eq_true rfl)⟩) (fun u4 H locs hw5 S => ?_)
        have S : Sw G A s.heap _ _ [((ma 1), .inl (k 0, 800, .inl wd)), ((ma 0), .inl (k 0, 4, .inl (fun i => nI (tk i)))), ((ma 12), .inl (k 0, 1400, .inl vr9)), (h0, .inr (8, moL ma (va_up (va_up (va_up (va_up (va_up (va_up (va_up iv 9 (nI pa)) 10 (nI cl)) 4 (nI (stp + 1))) 8 (nI fn)) 6 (nI bs)) 7 (nI kn)) 5 (nI (wt + 1))) co)), ((ma 7), .inl (k 0, 1200, .inl (fun i => nI ((va_up WK wt 2) i)))), ((ma 8), .inl (k 0, 1200, .inl (fun i => nI ((va_up WF wt fn) i)))), ((ma 9), .inl (k 0, 1200, .inl (fun i => nI ((va_up WA wt 0) i)))), ((ma 10), .inl (k 0, 1200, .inl (fun i => nI ((va_up WB wt bs) i)))), ((ma 11), .inl (k 0, 1200, .inl (fun i => nI ((va_up WN wt kn) i))))] := S
        refine lv_aload_n hx hb d_Mo_beginOne_316 rfl (lv_at hl 4 rfl) ?_
        refine lv_iload_n hx hb d_Mo_beginOne_317 rfl (lv_at hl 2 rfl) ?_
        refine lv_iload hx hb d_Mo_beginOne_318 (lv_at hl 1 rfl) ?_
        refine r_backv (wi := [(h0, .inr (8, moL ma (va_up (va_up (va_up (va_up (va_up (va_up (va_up iv 9 (nI pa)) 4 (nI (stp + 1))) 8 (nI fn)) 6 (nI bs)) 7 (nI kn)) 5 (nI (wt + 1))) 10 (nI cl)) co)), ((ma 0), .inl (k 0, 4, .inl (fun i => nI (tk i))))]) (wr := [((ma 1), .inl (k 0, 800, .inl wd)), ((ma 12), .inl (k 0, 1400, .inl vr9)), ((ma 7), .inl (k 0, 1200, .inl (fun i => nI ((va_up WK wt 2) i)))), ((ma 8), .inl (k 0, 1200, .inl (fun i => nI ((va_up WF wt fn) i)))), ((ma 9), .inl (k 0, 1200, .inl (fun i => nI ((va_up WA wt 0) i)))), ((ma 10), .inl (k 0, 1200, .inl (fun i => nI ((va_up WB wt bs) i)))), ((ma 11), .inl (k 0, 1200, .inl (fun i => nI ((va_up WN wt kn) i))))]) S hA [3, 1] [0, 2, 4, 5, 6, 7, 8] rfl rfl (by decide) (by decide) (va_runV (As := [.int (nI g9), .int (nI (bs + kn))]) (rest := []) ⟨hx, hb, C.2.2.1, C.2.2.2.1, C.2.2.2.2.1⟩ (g_Mo_enter l G k h0 _ g9 (bs + kn) cl ma (va_up (va_up (va_up (va_up (va_up (va_up iv 9 (nI pa)) 4 (nI (stp + 1))) 8 (nI fn)) 6 (nI bs)) 7 (nI kn)) 5 (nI (wt + 1))) co tk hg hcl) (k_virt (n := 2) C wc_Mo_enter rfl rfl wz_Mo wm_Mo_179 wn_Mo_enter ws_Mo_enter (by decide +kernel) ⟨(Nat.le_of_ble_eq_true rfl), (Nat.le_of_ble_eq_true rfl)⟩) (pr_nowV K S [3, 1] (by decide) rfl 3 rfl rfl) rfl rfl hl.1 rfl (lv_room (Nat.le_of_ble_eq_true rfl)) d_Mo_beginOne_320 ⟨(Nat.le_of_ble_eq_true rfl), (Nat.le_of_ble_eq_true rfl)⟩) (fun u6 H locs hw7 S => ?_)
        have S : Sw G A s.heap _ _ [((ma 1), .inl (k 0, 800, .inl wd)), ((ma 12), .inl (k 0, 1400, .inl vr9)), ((ma 7), .inl (k 0, 1200, .inl (fun i => nI ((va_up WK wt 2) i)))), ((ma 8), .inl (k 0, 1200, .inl (fun i => nI ((va_up WF wt fn) i)))), ((ma 9), .inl (k 0, 1200, .inl (fun i => nI ((va_up WA wt 0) i)))), ((ma 10), .inl (k 0, 1200, .inl (fun i => nI ((va_up WB wt bs) i)))), ((ma 11), .inl (k 0, 1200, .inl (fun i => nI ((va_up WN wt kn) i)))), (h0, .inr (8, moL ma (va_up (va_up (va_up (va_up (va_up (va_up (va_up iv 4 (nI (stp + 1))) 5 (nI (wt + 1))) 10 (nI (cl + 1))) 8 (nI g9)) 9 0) 6 (nI (bs + kn))) 7 (nI (tk g9))) co)), ((ma 0), .inl (k 0, 4, .inl (fun i => nI (tk i))))] := S
        refine lv_goto (tgt := 349) hx hb d_Mo_beginOne_323 (by decide) ?_
        exact r_vret C K vr9 ⟨(show k9 = tk g9 by omega) ▸ hc, ho⟩ (S.sub [7, 0, 8, 1, 2, 3, 4, 5, 6] (by decide) rfl) d_Mo_beginOne_349 (Nat.le_of_ble_eq_true rfl) (Nat.le_of_ble_eq_true rfl)
      · obtain ⟨hv1, hv2⟩ := hvs k9 (by omega)
        refine lv_aload_n hx hb d_Mo_beginOne_273 rfl (lv_at hl 4 rfl) ?_
        refine r_get C K S 0 rfl rfl clOk_Mo 19 (by decide) wf_Mo_53 (v := .ref (ma 12)) rfl d_Mo_beginOne_274 ?_
        refine lv_iload hx hb d_Mo_beginOne_277 (lv_at hl 1 rfl) ?_
        refine lv_iload hx hb d_Mo_beginOne_279 (lv_at hl 0 rfl) ?_
        refine z_iadd (x := nI (bs + kn)) (y := nI k9) (v := nI (bs + kn + k9)) hx hb d_Mo_beginOne_281 (nI_add (bs + kn) k9) ?_
        refine lv_aload_n hx hb d_Mo_beginOne_282 rfl (lv_at hl 4 rfl) ?_
        refine r_get C K S 0 rfl rfl clOk_Mo 19 (by decide) wf_Mo_53 (v := .ref (ma 12)) rfl d_Mo_beginOne_283 ?_
        refine lv_aload_n hx hb d_Mo_beginOne_286 rfl (lv_at hl 4 rfl) ?_
        refine r_get C K S 0 rfl rfl clOk_Mo 20 (by decide) wf_Mo_149 (v := .int (nI bs)) rfl d_Mo_beginOne_287 ?_
        refine lv_aload_n hx hb d_Mo_beginOne_290 rfl (lv_at hl 4 rfl) ?_
        refine r_get C K S 0 rfl rfl clOk_Mo 2 (by decide) wf_Mo_13 (v := .ref (ma 1)) rfl d_Mo_beginOne_291 ?_
        refine lv_iload_n hx hb d_Mo_beginOne_294 rfl (lv_at hl 3 rfl) ?_
        refine lv_iconst (v := 2) hx hb d_Mo_beginOne_295 (by decide) ?_
        refine z_iadd (x := nI (200 * fn + pa)) (y := 2) (v := nI (200 * fn + pa + 2)) hx hb d_Mo_beginOne_296 (nI_add (200 * fn + pa) 2) ?_
        refine lv_iload hx hb d_Mo_beginOne_297 (lv_at hl 0 rfl) ?_
        refine z_iadd (x := nI (200 * fn + pa + 2)) (y := nI k9) (v := nI (200 * fn + pa + 2 + k9)) hx hb d_Mo_beginOne_299 (nI_add (200 * fn + pa + 2) k9) ?_
        refine r_iald C K S 1 rfl (i := nI (200 * fn + pa + 2 + k9)) (show vp_in (nI (200 * fn + pa + 2 + k9)) _ from vp_in_nI (n := (200 * fn + pa + 2 + k9)) (by omega) (by decide)) (v := wdF wd fn (pa + 2 + k9)) (by rw [nI_clamp (by omega)]; exact (show wd (200 * fn + pa + 2 + k9) = wd (200 * fn + (pa + 2 + k9)) from congrArg wd (by omega))) d_Mo_beginOne_300 ?_
        rw [hv1]
        refine z_iadd (x := nI bs) (y := nI (vs k9)) (v := nI (bs + vs k9)) hx hb d_Mo_beginOne_301 (nI_add bs (vs k9)) ?_
        refine r_iald C K S 3 rfl (i := nI (bs + vs k9)) (show vp_in (nI (bs + vs k9)) _ from vp_in_nI (n := (bs + vs k9)) (by omega) (by decide)) (v := vr9 (bs + vs k9)) (by rw [nI_clamp (by omega)]) d_Mo_beginOne_302 ?_
        rw [ho (bs + vs k9) (by omega)]
        refine r_iast C K S 3 rfl (i := nI (bs + kn + k9)) (x := vr (bs + vs k9)) (show vp_in (nI (bs + kn + k9)) _ from vp_in_nI (n := (bs + kn + k9)) (by omega) (by decide)) (f' := va_up vr9 (bs + kn + k9) (vr (bs + vs k9))) (ws' := [(h0, .inr (8, moL ma (va_up (va_up (va_up (va_up (va_up (va_up (va_up iv 8 (nI fn)) 9 (nI pa)) 6 (nI bs)) 7 (nI kn)) 5 (nI wt)) 10 (nI cl)) 4 (nI (stp + 1))) co)), ((ma 1), .inl (k 0, 800, .inl wd)), ((ma 0), .inl (k 0, 4, .inl (fun i => nI (tk i)))), ((ma 12), .inl (k 0, 1400, .inl (va_up vr9 (bs + kn + k9) (vr (bs + vs k9))))), ((ma 7), .inl (k 0, 1200, .inl (fun i => nI (WK i)))), ((ma 8), .inl (k 0, 1200, .inl (fun i => nI (WF i)))), ((ma 9), .inl (k 0, 1200, .inl (fun i => nI (WA i)))), ((ma 10), .inl (k 0, 1200, .inl (fun i => nI (WB i)))), ((ma 11), .inl (k 0, 1200, .inl (fun i => nI (WN i))))]) (show upd _ (nI (bs + kn + k9) : Int32).toNatClampNeg (vr (bs + vs k9)) = _ from upd_W vr9 (j := (bs + kn + k9)) (by omega) (vr (bs + vs k9))) rfl d_Mo_beginOne_303 (fun H locs S => ?_)
        refine lv_iinc (v := nI (k9 + 1)) (lv' := [(5, .int (nI (k9 + 1))), (4, .int (nI (bs + kn))), (2, .int (nI g9)), (1, .int (nI (200 * fn + pa))), (0, .ref h0)]) hx hb d_Mo_beginOne_304 hl (k := 0) rfl (show nI k9 + Int32.ofInt 1 = nI (k9 + 1) from (nI_add k9 1).trans (congrArg nI (by omega))) (by decide) rfl (fun ls hl => ?_)
        refine lv_goto (tgt := 262) hx hb d_Mo_beginOne_307 (by decide) ?_
        exact ih_lp (k9 + 1) (va_up vr9 (bs + kn + k9) (vr (bs + vs k9))) (by omega) (by omega) (fun j9 hj => (Nat.lt_or_eq_of_le (Nat.le_of_lt_succ hj)).elim (fun q => by rw [va_up_ne _ _ (by omega)]; exact hc j9 q) (fun q => by rw [q, va_up_self])) (fun x hx => by rw [va_up_ne _ _ (by omega)]; exact ho x hx) _ _ (S.sub [0, 1, 2, 3, 4, 5, 6, 7, 8] (by decide) rfl) ls (lv_sub hl [0, 1, 2, 3, 4] rfl)
  exact lp _ 0 vr (Nat.lt_succ_self _) (by omega) (fun _ h => absurd h (Nat.not_lt_zero _)) (fun _ _ => rfl) _ _ (S.sub [0, 1, 2, 3, 4, 5, 6, 7, 8] (by decide) rfl) ls (lv_sub hl [0, 1, 2, 3, 4] rfl)
set_option maxRecDepth 100000 in
set_option maxHeartbeats 16000000 in
/-- beginOne, a call -/
theorem g_Mo_beginOne_5l (l : Launch) (G : va_G) (k : Nat → ClassId) (h0 : Nat) (s0 : Nat) (fn : Nat) (pa : Nat) (stp : Nat) (g9 : Nat) (vs : Nat → Nat) (bs : Nat) (kn : Nat) (wt : Nat) (cl : Nat) (WK : Nat → Nat) (WF : Nat → Nat) (WA : Nat → Nat) (WB : Nat → Nat) (WN : Nat → Nat) (tk : Nat → Nat) (vr : Nat → Int32) (ma : Nat → Nat) (iv : Nat → Int32) (co : Int64) (wd : Nat → Int32) (hfn : fn < 4) (hst : stp < 20000) (hpa : pa + 2 + tk g9 ≤ 200) (hv : wdF wd fn (pa + 1) = nI g9) (hg : g9 < 4) (hvs : ∀ k9, k9 < tk g9 → wdF wd fn (pa + 2 + k9) = nI (vs k9) ∧ vs k9 < kn) (htg : tk g9 ≤ 3) (hbs : bs + kn + 3 ≤ 1400) (hwt : wt < 1200) (hcl : cl = 60) (hk : wdF wd fn pa = 5) : CV l y_Mo_beginOne c_Mo_beginOne 6 { frames := 1, cells := 0, slots := 0, locals := 22 } [.ref h0] G k s0 [(h0, .inr (8, moL ma (va_up (va_up (va_up (va_up (va_up (va_up (va_up iv 8 (nI fn)) 9 (nI pa)) 4 (nI stp)) 6 (nI bs)) 7 (nI kn)) 5 (nI wt)) 10 (nI cl)) co)), ((ma 1), .inl (k 0, 800, .inl wd)), ((ma 0), .inl (k 0, 4, .inl (fun i => nI (tk i)))), ((ma 12), .inl (k 0, 1400, .inl vr)), ((ma 7), .inl (k 0, 1200, .inl (fun i => nI (WK i)))), ((ma 8), .inl (k 0, 1200, .inl (fun i => nI (WF i)))), ((ma 9), .inl (k 0, 1200, .inl (fun i => nI (WA i)))), ((ma 10), .inl (k 0, 1200, .inl (fun i => nI (WB i)))), ((ma 11), .inl (k 0, 1200, .inl (fun i => nI (WN i))))] (fun (u : Nat → Int32) => (∀ j9, j9 < tk g9 → u (bs + kn + j9) = vr (bs + vs j9)) ∧ ∀ x, x < bs + kn → u x = vr x) (fun u => [(h0, .inr (8, moL ma (va_up (va_up (va_up (va_up (va_up (va_up (va_up (va_up iv 4 (nI (stp + 1))) 5 (nI (wt + 1))) 10 (nI cl)) 11 1) 8 (nI fn)) 9 (nI pa)) 6 (nI bs)) 7 (nI kn)) co)), ((ma 1), .inl (k 0, 800, .inl wd)), ((ma 0), .inl (k 0, 4, .inl (fun i => nI (tk i)))), ((ma 12), .inl (k 0, 1400, .inl u)), ((ma 7), .inl (k 0, 1200, .inl (fun i => nI ((va_up WK wt 2) i)))), ((ma 8), .inl (k 0, 1200, .inl (fun i => nI ((va_up WF wt fn) i)))), ((ma 9), .inl (k 0, 1200, .inl (fun i => nI ((va_up WA wt 0) i)))), ((ma 10), .inl (k 0, 1200, .inl (fun i => nI ((va_up WB wt bs) i)))), ((ma 11), .inl (k 0, 1200, .inl (fun i => nI ((va_up WN wt kn) i))))]) 0 0 := by
  refine met_start (by decide) (Nat.le_of_ble_eq_true rfl) ?_
  intro p e s m below meth c C K hA hsz S ls hl
  generalize va_A [(h0, .inr (8, moL ma (va_up (va_up (va_up (va_up (va_up (va_up (va_up iv 8 (nI fn)) 9 (nI pa)) 4 (nI stp)) 6 (nI bs)) 7 (nI kn)) 5 (nI wt)) 10 (nI cl)) co)), ((ma 1), .inl (k 0, 800, .inl wd)), ((ma 0), .inl (k 0, 4, .inl (fun i => nI (tk i)))), ((ma 12), .inl (k 0, 1400, .inl vr)), ((ma 7), .inl (k 0, 1200, .inl (fun i => nI (WK i)))), ((ma 8), .inl (k 0, 1200, .inl (fun i => nI (WF i)))), ((ma 9), .inl (k 0, 1200, .inl (fun i => nI (WA i)))), ((ma 10), .inl (k 0, 1200, .inl (fun i => nI (WB i)))), ((ma 11), .inl (k 0, 1200, .inl (fun i => nI (WN i))))] s0 = A at hA S ⊢
  have hx := C.1
  have hb := C.2.1
  have hl : lv_has ls 6 [(0, .ref h0)] := hl
  refine lv_aload_n hx hb d_Mo_beginOne_0 rfl (lv_at hl 0 rfl) ?_
  refine r_get C K S 0 rfl rfl clOk_Mo 12 (by decide) wf_Mo_165 (v := .int (nI stp)) rfl d_Mo_beginOne_1 ?_
  refine lv_sipush (v := 20000) hx hb d_Mo_beginOne_4 (by decide) ?_
  refine z_icmp_ne (a := stp) (b := 20000) (tgt := 16) hx hb d_Mo_beginOne_7 (by decide) (by omega) (by omega) (fun hc1 => ?_) (fun hc1 => False.elim (by omega))
  refine lv_aload_n hx hb d_Mo_beginOne_16 rfl (lv_at hl 0 rfl) ?_
  refine lv_dup hx hb d_Mo_beginOne_17 rfl ?_
  refine r_get C K S 0 rfl rfl clOk_Mo 12 (by decide) wf_Mo_165 (v := .int (nI stp)) rfl d_Mo_beginOne_18 ?_
  refine lv_iconst (v := 1) hx hb d_Mo_beginOne_21 (by decide) ?_
  refine z_iadd (x := nI stp) (y := 1) (v := nI (stp + 1)) hx hb d_Mo_beginOne_22 (nI_add stp 1) ?_
  refine r_put C K S 0 rfl rfl clOk_Mo 12 (by decide) wf_Mo_165 rfl (ty := .int) (v := .int (nI (stp + 1))) (by decide +kernel) rfl rfl (Nat.le_of_ble_eq_true rfl) (fs' := moL ma (va_up (va_up (va_up (va_up (va_up (va_up (va_up iv 8 (nI fn)) 9 (nI pa)) 6 (nI bs)) 7 (nI kn)) 5 (nI wt)) 10 (nI cl)) 4 (nI (stp + 1))) co) (ws' := [(h0, .inr (8, moL ma (va_up (va_up (va_up (va_up (va_up (va_up (va_up iv 8 (nI fn)) 9 (nI pa)) 6 (nI bs)) 7 (nI kn)) 5 (nI wt)) 10 (nI cl)) 4 (nI (stp + 1))) co)), ((ma 1), .inl (k 0, 800, .inl wd)), ((ma 0), .inl (k 0, 4, .inl (fun i => nI (tk i)))), ((ma 12), .inl (k 0, 1400, .inl vr)), ((ma 7), .inl (k 0, 1200, .inl (fun i => nI (WK i)))), ((ma 8), .inl (k 0, 1200, .inl (fun i => nI (WF i)))), ((ma 9), .inl (k 0, 1200, .inl (fun i => nI (WA i)))), ((ma 10), .inl (k 0, 1200, .inl (fun i => nI (WB i)))), ((ma 11), .inl (k 0, 1200, .inl (fun i => nI (WN i))))]) rfl rfl d_Mo_beginOne_23 (fun H locs S => ?_)
  refine lv_sipush (v := 200) hx hb d_Mo_beginOne_26 (by decide) ?_
  refine lv_aload_n hx hb d_Mo_beginOne_29 rfl (lv_at hl 0 rfl) ?_
  refine r_get C K S 0 rfl rfl clOk_Mo 22 (by decide) wf_Mo_146 (v := .int (nI fn)) rfl d_Mo_beginOne_30 ?_
  refine z_imul (x := 200) (y := nI fn) (v := nI (200 * fn)) hx hb d_Mo_beginOne_33 (pk_mul 200 fn) ?_
  refine lv_aload_n hx hb d_Mo_beginOne_34 rfl (lv_at hl 0 rfl) ?_
  refine r_get C K S 0 rfl rfl clOk_Mo 23 (by decide) wf_Mo_162 (v := .int (nI pa)) rfl d_Mo_beginOne_35 ?_
  refine z_iadd (x := nI (200 * fn)) (y := nI pa) (v := nI (200 * fn + pa)) hx hb d_Mo_beginOne_38 (nI_add (200 * fn) pa) ?_
  refine lv_istore_n (lv' := [(1, .int (nI (200 * fn + pa))), (0, .ref h0)]) hx hb d_Mo_beginOne_39 rfl hl (by decide) rfl (fun ls hl => ?_)
  refine lv_aload_n hx hb d_Mo_beginOne_40 rfl (lv_at hl 1 rfl) ?_
  refine r_get C K S 0 rfl rfl clOk_Mo 2 (by decide) wf_Mo_13 (v := .ref (ma 1)) rfl d_Mo_beginOne_41 ?_
  refine lv_iload_n hx hb d_Mo_beginOne_44 rfl (lv_at hl 0 rfl) ?_
  refine lv_iconst (v := 1) hx hb d_Mo_beginOne_45 (by decide) ?_
  refine z_iadd (x := nI (200 * fn + pa)) (y := 1) (v := nI (200 * fn + pa + 1)) hx hb d_Mo_beginOne_46 (nI_add (200 * fn + pa) 1) ?_
  refine lv_sipush (v := 800) hx hb d_Mo_beginOne_47 (by decide) ?_
  refine z_icmp_ge (a := (200 * fn + pa + 1)) (b := 800) (tgt := 59) hx hb d_Mo_beginOne_50 (by decide) (by omega) (by omega) (fun hc2 => False.elim (by omega)) (fun hc2 => ?_)
  refine lv_iload_n hx hb d_Mo_beginOne_53 rfl (lv_at hl 0 rfl) ?_
  refine lv_iconst (v := 1) hx hb d_Mo_beginOne_54 (by decide) ?_
  refine z_iadd (x := nI (200 * fn + pa)) (y := 1) (v := nI (200 * fn + pa + 1)) hx hb d_Mo_beginOne_55 (nI_add (200 * fn + pa) 1) ?_
  refine lv_goto (tgt := 60) hx hb d_Mo_beginOne_56 (by decide) ?_
  refine r_iald C K S 1 rfl (i := nI (200 * fn + pa + 1)) (show vp_in (nI (200 * fn + pa + 1)) _ from vp_in_nI (n := (200 * fn + pa + 1)) (by omega) (by decide)) (v := wdF wd fn (pa + 1)) (by rw [nI_clamp (by omega)]; exact (show wd (200 * fn + pa + 1) = wd (200 * fn + (pa + 1)) from congrArg wd (by omega))) d_Mo_beginOne_60 ?_
  rw [hv]
  refine lv_istore_n (lv' := [(2, .int (nI g9)), (1, .int (nI (200 * fn + pa))), (0, .ref h0)]) hx hb d_Mo_beginOne_61 rfl hl (by decide) rfl (fun ls hl => ?_)
  refine lv_aload_n hx hb d_Mo_beginOne_62 rfl (lv_at hl 2 rfl) ?_
  refine r_get C K S 0 rfl rfl clOk_Mo 2 (by decide) wf_Mo_13 (v := .ref (ma 1)) rfl d_Mo_beginOne_63 ?_
  refine lv_iload_n hx hb d_Mo_beginOne_66 rfl (lv_at hl 1 rfl) ?_
  refine r_iald C K S 1 rfl (i := nI (200 * fn + pa)) (show vp_in (nI (200 * fn + pa)) _ from vp_in_nI (n := (200 * fn + pa)) (by omega) (by decide)) (v := wdF wd fn pa) (by rw [nI_clamp (by omega)]; exact (show wd (200 * fn + pa) = wd (200 * fn + pa) from congrArg wd (by omega))) d_Mo_beginOne_67 ?_
  refine lv_tableIn (x := wdF wd fn pa) (off := 180) (tgt := 248) hx hb d_Mo_beginOne_68 (by rw [hk]; decide) (by rw [hk]; decide) (by rw [hk]; rfl) (by decide) ?_
  refine lv_aload_n hx hb d_Mo_beginOne_248 rfl (lv_at hl 2 rfl) ?_
  refine r_get C K S 0 rfl rfl clOk_Mo 20 (by decide) wf_Mo_149 (v := .int (nI bs)) rfl d_Mo_beginOne_249 ?_
  refine lv_aload_n hx hb d_Mo_beginOne_252 rfl (lv_at hl 2 rfl) ?_
  refine r_get C K S 0 rfl rfl clOk_Mo 21 (by decide) wf_Mo_152 (v := .int (nI kn)) rfl d_Mo_beginOne_253 ?_
  refine z_iadd (x := nI bs) (y := nI kn) (v := nI (bs + kn)) hx hb d_Mo_beginOne_256 (nI_add bs kn) ?_
  refine lv_istore (lv' := [(4, .int (nI (bs + kn))), (2, .int (nI g9)), (1, .int (nI (200 * fn + pa))), (0, .ref h0)]) hx hb d_Mo_beginOne_257 hl (by decide) rfl (fun ls hl => ?_)
  refine lv_iconst (v := 0) hx hb d_Mo_beginOne_259 (by decide) ?_
  refine lv_istore (lv' := [(5, .int 0), (4, .int (nI (bs + kn))), (2, .int (nI g9)), (1, .int (nI (200 * fn + pa))), (0, .ref h0)]) hx hb d_Mo_beginOne_260 hl (by decide) rfl (fun ls hl => ?_)
  have lp : ∀ d9, ∀ (k9 : Nat), ∀ (vr9 : Nat → Int32), (tk g9 - k9) < d9 → (k9 ≤ tk g9) → (∀ j9, j9 < k9 → vr9 (bs + kn + j9) = vr (bs + vs j9)) → (∀ x, x < bs + kn → vr9 x = vr x) → ∀ (H : Heap) (locs : List Loc), Sw G A s.heap H locs [(h0, .inr (8, moL ma (va_up (va_up (va_up (va_up (va_up (va_up (va_up iv 8 (nI fn)) 9 (nI pa)) 6 (nI bs)) 7 (nI kn)) 5 (nI wt)) 10 (nI cl)) 4 (nI (stp + 1))) co)), ((ma 1), .inl (k 0, 800, .inl wd)), ((ma 0), .inl (k 0, 4, .inl (fun i => nI (tk i)))), ((ma 12), .inl (k 0, 1400, .inl vr9)), ((ma 7), .inl (k 0, 1200, .inl (fun i => nI (WK i)))), ((ma 8), .inl (k 0, 1200, .inl (fun i => nI (WF i)))), ((ma 9), .inl (k 0, 1200, .inl (fun i => nI (WA i)))), ((ma 10), .inl (k 0, 1200, .inl (fun i => nI (WB i)))), ((ma 11), .inl (k 0, 1200, .inl (fun i => nI (WN i))))] → ∀ ls : Array Slot, lv_has ls 6 [(5, .int (nI k9)), (4, .int (nI (bs + kn))), (2, .int (nI g9)), (1, .int (nI (200 * fn + pa))), (0, .ref h0)] → W p l e { frames := 1, cells := 0, slots := 0, locals := 22 } s m [Value.ref h0].toArray below meth c H locs 0 0 (MQ below (va_Qv (fun (u : Nat → Int32) => (∀ j9, j9 < tk g9 → u (bs + kn + j9) = vr (bs + vs j9)) ∧ ∀ x, x < bs + kn → u x = vr x) (Po G k A (fun u => [(h0, .inr (8, moL ma (va_up (va_up (va_up (va_up (va_up (va_up (va_up (va_up iv 4 (nI (stp + 1))) 5 (nI (wt + 1))) 10 (nI cl)) 11 1) 8 (nI fn)) 9 (nI pa)) 6 (nI bs)) 7 (nI kn)) co)), ((ma 1), .inl (k 0, 800, .inl wd)), ((ma 0), .inl (k 0, 4, .inl (fun i => nI (tk i)))), ((ma 12), .inl (k 0, 1400, .inl u)), ((ma 7), .inl (k 0, 1200, .inl (fun i => nI ((va_up WK wt 2) i)))), ((ma 8), .inl (k 0, 1200, .inl (fun i => nI ((va_up WF wt fn) i)))), ((ma 9), .inl (k 0, 1200, .inl (fun i => nI ((va_up WA wt 0) i)))), ((ma 10), .inl (k 0, 1200, .inl (fun i => nI ((va_up WB wt bs) i)))), ((ma 11), .inl (k 0, 1200, .inl (fun i => nI ((va_up WN wt kn) i))))])) A) [Value.ref h0].toArray s 0 0 A) (F0 m 262 ls []) := by
    intro d9
    induction d9 with
    | zero => intro k9 vr9 hm; exact absurd hm (Nat.not_lt_zero _)
    | succ d9 ih_lp =>
      intro k9 vr9 hm hk9 hc ho H locs S ls hl
      refine lv_iload hx hb d_Mo_beginOne_262 (lv_at hl 0 rfl) ?_
      refine lv_aload_n hx hb d_Mo_beginOne_264 rfl (lv_at hl 4 rfl) ?_
      refine r_get C K S 0 rfl rfl clOk_Mo 1 (by decide) wf_Mo_9 (v := .ref (ma 0)) rfl d_Mo_beginOne_265 ?_
      refine lv_iload_n hx hb d_Mo_beginOne_268 rfl (lv_at hl 2 rfl) ?_
      refine r_iald C K S 2 rfl (i := nI g9) (show vp_in (nI g9) _ from vp_in_nI (n := g9) (by omega) (by decide)) (v := nI (tk g9)) (by rw [nI_clamp (by omega)]) d_Mo_beginOne_269 ?_
      refine z_icmp_ge (a := k9) (b := (tk g9)) (tgt := 310) hx hb d_Mo_beginOne_270 (by decide) (by omega) (by omega) (fun hc3 => ?_) (fun hc3 => ?_)
      · refine lv_aload_n hx hb d_Mo_beginOne_310 rfl (lv_at hl 4 rfl) ?_
        refine lv_iconst (v := 2) hx hb d_Mo_beginOne_311 (by decide) ?_
        refine lv_iconst (v := 0) hx hb d_Mo_beginOne_312 (by decide) ?_
        refine r_backv (wi := [(h0, .inr (8, moL ma (va_up (va_up (va_up (va_up (va_up (va_up (va_up iv 9 (nI pa)) 10 (nI cl)) 4 (nI (stp + 1))) 8 (nI fn)) 6 (nI bs)) 7 (nI kn)) 5 (nI wt)) co)), ((ma 7), .inl (k 0, 1200, .inl (fun i => nI (WK i)))), ((ma 8), .inl (k 0, 1200, .inl (fun i => nI (WF i)))), ((ma 9), .inl (k 0, 1200, .inl (fun i => nI (WA i)))), ((ma 10), .inl (k 0, 1200, .inl (fun i => nI (WB i)))), ((ma 11), .inl (k 0, 1200, .inl (fun i => nI (WN i))))]) (wr := [((ma 1), .inl (k 0, 800, .inl wd)), ((ma 0), .inl (k 0, 4, .inl (fun i => nI (tk i)))), ((ma 12), .inl (k 0, 1400, .inl vr9))]) S hA [0, 4, 5, 6, 7, 8] [1, 2, 3] rfl rfl (by decide) (by decide) (va_runV (As := [.int 2, .int 0]) (rest := []) ⟨hx, hb, C.2.2.1, C.2.2.2.1, C.2.2.2.2.1⟩ (g_Mo_wait l G k h0 _ 2 0 fn bs kn wt ma (va_up (va_up (va_up iv 9 (nI pa)) 10 (nI cl)) 4 (nI (stp + 1))) co WK WF WA WB WN hwt) (k_virt (n := 2) C wc_Mo_wait rfl rfl wz_Mo wm_Mo_171 wn_Mo_wait ws_Mo_wait (by decide +kernel) ⟨(Nat.le_of_ble_eq_true rfl), (Nat.le_of_ble_eq_true rfl)⟩) (pr_nowV K S [0, 4, 5, 6, 7, 8] (by decide) rfl 0 rfl rfl) rfl rfl hl.1 rfl (lv_room (Nat.le_of_ble_eq_true rfl)) d_Mo_beginOne_313 ⟨(Nat.le_of_ble_eq_true rfl), (Nat.le_of_ble_eq_true rfl)⟩) (fun u4 H locs hw5 S => ?_)
        have S : Sw G A s.heap _ _ [((ma 1), .inl (k 0, 800, .inl wd)), ((ma 0), .inl (k 0, 4, .inl (fun i => nI (tk i)))), ((ma 12), .inl (k 0, 1400, .inl vr9)), (h0, .inr (8, moL ma (va_up (va_up (va_up (va_up (va_up (va_up (va_up iv 9 (nI pa)) 10 (nI cl)) 4 (nI (stp + 1))) 8 (nI fn)) 6 (nI bs)) 7 (nI kn)) 5 (nI (wt + 1))) co)), ((ma 7), .inl (k 0, 1200, .inl (fun i => nI ((va_up WK wt 2) i)))), ((ma 8), .inl (k 0, 1200, .inl (fun i => nI ((va_up WF wt fn) i)))), ((ma 9), .inl (k 0, 1200, .inl (fun i => nI ((va_up WA wt 0) i)))), ((ma 10), .inl (k 0, 1200, .inl (fun i => nI ((va_up WB wt bs) i)))), ((ma 11), .inl (k 0, 1200, .inl (fun i => nI ((va_up WN wt kn) i))))] := S
        refine lv_aload_n hx hb d_Mo_beginOne_316 rfl (lv_at hl 4 rfl) ?_
        refine lv_iload_n hx hb d_Mo_beginOne_317 rfl (lv_at hl 2 rfl) ?_
        refine lv_iload hx hb d_Mo_beginOne_318 (lv_at hl 1 rfl) ?_
        refine r_backv (wi := [(h0, .inr (8, moL ma (va_up (va_up (va_up (va_up (va_up (va_up (va_up iv 9 (nI pa)) 4 (nI (stp + 1))) 8 (nI fn)) 6 (nI bs)) 7 (nI kn)) 5 (nI (wt + 1))) 10 (nI cl)) co)), ((ma 0), .inl (k 0, 4, .inl (fun i => nI (tk i))))]) (wr := [((ma 1), .inl (k 0, 800, .inl wd)), ((ma 12), .inl (k 0, 1400, .inl vr9)), ((ma 7), .inl (k 0, 1200, .inl (fun i => nI ((va_up WK wt 2) i)))), ((ma 8), .inl (k 0, 1200, .inl (fun i => nI ((va_up WF wt fn) i)))), ((ma 9), .inl (k 0, 1200, .inl (fun i => nI ((va_up WA wt 0) i)))), ((ma 10), .inl (k 0, 1200, .inl (fun i => nI ((va_up WB wt bs) i)))), ((ma 11), .inl (k 0, 1200, .inl (fun i => nI ((va_up WN wt kn) i))))]) S hA [3, 1] [0, 2, 4, 5, 6, 7, 8] rfl rfl (by decide) (by decide) (va_runV (As := [.int (nI g9), .int (nI (bs + kn))]) (rest := []) ⟨hx, hb, C.2.2.1, C.2.2.2.1, C.2.2.2.2.1⟩ (g_Mo_enter_l l G k h0 _ g9 (bs + kn) cl ma (va_up (va_up (va_up (va_up (va_up (va_up iv 9 (nI pa)) 4 (nI (stp + 1))) 8 (nI fn)) 6 (nI bs)) 7 (nI kn)) 5 (nI (wt + 1))) co tk hcl) (k_virt (n := 2) C wc_Mo_enter rfl rfl wz_Mo wm_Mo_179 wn_Mo_enter ws_Mo_enter (by decide +kernel) ⟨(Nat.le_of_ble_eq_true rfl), (Nat.le_of_ble_eq_true rfl)⟩) (pr_nowV K S [3, 1] (by decide) rfl 3 rfl rfl) rfl rfl hl.1 rfl (lv_room (Nat.le_of_ble_eq_true rfl)) d_Mo_beginOne_320 ⟨(Nat.le_of_ble_eq_true rfl), (Nat.le_of_ble_eq_true rfl)⟩) (fun u6 H locs hw7 S => ?_)
        have S : Sw G A s.heap _ _ [((ma 1), .inl (k 0, 800, .inl wd)), ((ma 12), .inl (k 0, 1400, .inl vr9)), ((ma 7), .inl (k 0, 1200, .inl (fun i => nI ((va_up WK wt 2) i)))), ((ma 8), .inl (k 0, 1200, .inl (fun i => nI ((va_up WF wt fn) i)))), ((ma 9), .inl (k 0, 1200, .inl (fun i => nI ((va_up WA wt 0) i)))), ((ma 10), .inl (k 0, 1200, .inl (fun i => nI ((va_up WB wt bs) i)))), ((ma 11), .inl (k 0, 1200, .inl (fun i => nI ((va_up WN wt kn) i)))), (h0, .inr (8, moL ma (va_up (va_up (va_up (va_up (va_up (va_up (va_up (va_up iv 9 (nI pa)) 4 (nI (stp + 1))) 8 (nI fn)) 6 (nI bs)) 7 (nI kn)) 5 (nI (wt + 1))) 10 (nI cl)) 11 1) co)), ((ma 0), .inl (k 0, 4, .inl (fun i => nI (tk i))))] := S
        refine lv_goto (tgt := 349) hx hb d_Mo_beginOne_323 (by decide) ?_
        exact r_vret C K vr9 ⟨(show k9 = tk g9 by omega) ▸ hc, ho⟩ (S.sub [7, 0, 8, 1, 2, 3, 4, 5, 6] (by decide) rfl) d_Mo_beginOne_349 (Nat.le_of_ble_eq_true rfl) (Nat.le_of_ble_eq_true rfl)
      · obtain ⟨hv1, hv2⟩ := hvs k9 (by omega)
        refine lv_aload_n hx hb d_Mo_beginOne_273 rfl (lv_at hl 4 rfl) ?_
        refine r_get C K S 0 rfl rfl clOk_Mo 19 (by decide) wf_Mo_53 (v := .ref (ma 12)) rfl d_Mo_beginOne_274 ?_
        refine lv_iload hx hb d_Mo_beginOne_277 (lv_at hl 1 rfl) ?_
        refine lv_iload hx hb d_Mo_beginOne_279 (lv_at hl 0 rfl) ?_
        refine z_iadd (x := nI (bs + kn)) (y := nI k9) (v := nI (bs + kn + k9)) hx hb d_Mo_beginOne_281 (nI_add (bs + kn) k9) ?_
        refine lv_aload_n hx hb d_Mo_beginOne_282 rfl (lv_at hl 4 rfl) ?_
        refine r_get C K S 0 rfl rfl clOk_Mo 19 (by decide) wf_Mo_53 (v := .ref (ma 12)) rfl d_Mo_beginOne_283 ?_
        refine lv_aload_n hx hb d_Mo_beginOne_286 rfl (lv_at hl 4 rfl) ?_
        refine r_get C K S 0 rfl rfl clOk_Mo 20 (by decide) wf_Mo_149 (v := .int (nI bs)) rfl d_Mo_beginOne_287 ?_
        refine lv_aload_n hx hb d_Mo_beginOne_290 rfl (lv_at hl 4 rfl) ?_
        refine r_get C K S 0 rfl rfl clOk_Mo 2 (by decide) wf_Mo_13 (v := .ref (ma 1)) rfl d_Mo_beginOne_291 ?_
        refine lv_iload_n hx hb d_Mo_beginOne_294 rfl (lv_at hl 3 rfl) ?_
        refine lv_iconst (v := 2) hx hb d_Mo_beginOne_295 (by decide) ?_
        refine z_iadd (x := nI (200 * fn + pa)) (y := 2) (v := nI (200 * fn + pa + 2)) hx hb d_Mo_beginOne_296 (nI_add (200 * fn + pa) 2) ?_
        refine lv_iload hx hb d_Mo_beginOne_297 (lv_at hl 0 rfl) ?_
        refine z_iadd (x := nI (200 * fn + pa + 2)) (y := nI k9) (v := nI (200 * fn + pa + 2 + k9)) hx hb d_Mo_beginOne_299 (nI_add (200 * fn + pa + 2) k9) ?_
        refine r_iald C K S 1 rfl (i := nI (200 * fn + pa + 2 + k9)) (show vp_in (nI (200 * fn + pa + 2 + k9)) _ from vp_in_nI (n := (200 * fn + pa + 2 + k9)) (by omega) (by decide)) (v := wdF wd fn (pa + 2 + k9)) (by rw [nI_clamp (by omega)]; exact (show wd (200 * fn + pa + 2 + k9) = wd (200 * fn + (pa + 2 + k9)) from congrArg wd (by omega))) d_Mo_beginOne_300 ?_
        rw [hv1]
        refine z_iadd (x := nI bs) (y := nI (vs k9)) (v := nI (bs + vs k9)) hx hb d_Mo_beginOne_301 (nI_add bs (vs k9)) ?_
        refine r_iald C K S 3 rfl (i := nI (bs + vs k9)) (show vp_in (nI (bs + vs k9)) _ from vp_in_nI (n := (bs + vs k9)) (by omega) (by decide)) (v := vr9 (bs + vs k9)) (by rw [nI_clamp (by omega)]) d_Mo_beginOne_302 ?_
        rw [ho (bs + vs k9) (by omega)]
        refine r_iast C K S 3 rfl (i := nI (bs + kn + k9)) (x := vr (bs + vs k9)) (show vp_in (nI (bs + kn + k9)) _ from vp_in_nI (n := (bs + kn + k9)) (by omega) (by decide)) (f' := va_up vr9 (bs + kn + k9) (vr (bs + vs k9))) (ws' := [(h0, .inr (8, moL ma (va_up (va_up (va_up (va_up (va_up (va_up (va_up iv 8 (nI fn)) 9 (nI pa)) 6 (nI bs)) 7 (nI kn)) 5 (nI wt)) 10 (nI cl)) 4 (nI (stp + 1))) co)), ((ma 1), .inl (k 0, 800, .inl wd)), ((ma 0), .inl (k 0, 4, .inl (fun i => nI (tk i)))), ((ma 12), .inl (k 0, 1400, .inl (va_up vr9 (bs + kn + k9) (vr (bs + vs k9))))), ((ma 7), .inl (k 0, 1200, .inl (fun i => nI (WK i)))), ((ma 8), .inl (k 0, 1200, .inl (fun i => nI (WF i)))), ((ma 9), .inl (k 0, 1200, .inl (fun i => nI (WA i)))), ((ma 10), .inl (k 0, 1200, .inl (fun i => nI (WB i)))), ((ma 11), .inl (k 0, 1200, .inl (fun i => nI (WN i))))]) (show upd _ (nI (bs + kn + k9) : Int32).toNatClampNeg (vr (bs + vs k9)) = _ from upd_W vr9 (j := (bs + kn + k9)) (by omega) (vr (bs + vs k9))) rfl d_Mo_beginOne_303 (fun H locs S => ?_)
        refine lv_iinc (v := nI (k9 + 1)) (lv' := [(5, .int (nI (k9 + 1))), (4, .int (nI (bs + kn))), (2, .int (nI g9)), (1, .int (nI (200 * fn + pa))), (0, .ref h0)]) hx hb d_Mo_beginOne_304 hl (k := 0) rfl (show nI k9 + Int32.ofInt 1 = nI (k9 + 1) from (nI_add k9 1).trans (congrArg nI (by omega))) (by decide) rfl (fun ls hl => ?_)
        refine lv_goto (tgt := 262) hx hb d_Mo_beginOne_307 (by decide) ?_
        exact ih_lp (k9 + 1) (va_up vr9 (bs + kn + k9) (vr (bs + vs k9))) (by omega) (by omega) (fun j9 hj => (Nat.lt_or_eq_of_le (Nat.le_of_lt_succ hj)).elim (fun q => by rw [va_up_ne _ _ (by omega)]; exact hc j9 q) (fun q => by rw [q, va_up_self])) (fun x hx => by rw [va_up_ne _ _ (by omega)]; exact ho x hx) _ _ (S.sub [0, 1, 2, 3, 4, 5, 6, 7, 8] (by decide) rfl) ls (lv_sub hl [0, 1, 2, 3, 4] rfl)
  exact lp _ 0 vr (Nat.lt_succ_self _) (by omega) (fun _ h => absurd h (Nat.not_lt_zero _)) (fun _ _ => rfl) _ _ (S.sub [0, 1, 2, 3, 4, 5, 6, 7, 8] (by decide) rfl) ls (lv_sub hl [0, 1, 2, 3, 4] rfl)
theorem d_Mo_giveOn_0 : decode c_Mo_giveOn 0 = .ok (.aload_n 0, 1) := by decide +kernel
theorem d_Mo_giveOn_1 : decode c_Mo_giveOn 1 = .ok (.dup, 1) := by decide +kernel
theorem d_Mo_giveOn_2 : decode c_Mo_giveOn 2 = .ok (.getfield 143, 3) := by decide +kernel
theorem d_Mo_giveOn_5 : decode c_Mo_giveOn 5 = .ok (.iconst 1, 1) := by decide +kernel
theorem d_Mo_giveOn_6 : decode c_Mo_giveOn 6 = .ok (.isub, 1) := by decide +kernel
theorem d_Mo_giveOn_7 : decode c_Mo_giveOn 7 = .ok (.putfield 143, 3) := by decide +kernel
theorem d_Mo_giveOn_10 : decode c_Mo_giveOn 10 = .ok (.aload_n 0, 1) := by decide +kernel
theorem d_Mo_giveOn_11 : decode c_Mo_giveOn 11 = .ok (.aload_n 0, 1) := by decide +kernel
theorem d_Mo_giveOn_12 : decode c_Mo_giveOn 12 = .ok (.getfield 41, 3) := by decide +kernel
theorem d_Mo_giveOn_15 : decode c_Mo_giveOn 15 = .ok (.aload_n 0, 1) := by decide +kernel
theorem d_Mo_giveOn_16 : decode c_Mo_giveOn 16 = .ok (.getfield 143, 3) := by decide +kernel
theorem d_Mo_giveOn_19 : decode c_Mo_giveOn 19 = .ok (.iaload, 1) := by decide +kernel
theorem d_Mo_giveOn_20 : decode c_Mo_giveOn 20 = .ok (.putfield 146, 3) := by decide +kernel
theorem d_Mo_giveOn_23 : decode c_Mo_giveOn 23 = .ok (.aload_n 0, 1) := by decide +kernel
theorem d_Mo_giveOn_24 : decode c_Mo_giveOn 24 = .ok (.aload_n 0, 1) := by decide +kernel
theorem d_Mo_giveOn_25 : decode c_Mo_giveOn 25 = .ok (.getfield 47, 3) := by decide +kernel
theorem d_Mo_giveOn_28 : decode c_Mo_giveOn 28 = .ok (.aload_n 0, 1) := by decide +kernel
theorem d_Mo_giveOn_29 : decode c_Mo_giveOn 29 = .ok (.getfield 143, 3) := by decide +kernel
theorem d_Mo_giveOn_32 : decode c_Mo_giveOn 32 = .ok (.iaload, 1) := by decide +kernel
theorem d_Mo_giveOn_33 : decode c_Mo_giveOn 33 = .ok (.putfield 149, 3) := by decide +kernel
theorem d_Mo_giveOn_36 : decode c_Mo_giveOn 36 = .ok (.aload_n 0, 1) := by decide +kernel
theorem d_Mo_giveOn_37 : decode c_Mo_giveOn 37 = .ok (.aload_n 0, 1) := by decide +kernel
theorem d_Mo_giveOn_38 : decode c_Mo_giveOn 38 = .ok (.getfield 50, 3) := by decide +kernel
theorem d_Mo_giveOn_41 : decode c_Mo_giveOn 41 = .ok (.aload_n 0, 1) := by decide +kernel
theorem d_Mo_giveOn_42 : decode c_Mo_giveOn 42 = .ok (.getfield 143, 3) := by decide +kernel
theorem d_Mo_giveOn_45 : decode c_Mo_giveOn 45 = .ok (.iaload, 1) := by decide +kernel
theorem d_Mo_giveOn_46 : decode c_Mo_giveOn 46 = .ok (.putfield 152, 3) := by decide +kernel
theorem d_Mo_giveOn_49 : decode c_Mo_giveOn 49 = .ok (.aload_n 0, 1) := by decide +kernel
theorem d_Mo_giveOn_50 : decode c_Mo_giveOn 50 = .ok (.getfield 38, 3) := by decide +kernel
theorem d_Mo_giveOn_53 : decode c_Mo_giveOn 53 = .ok (.aload_n 0, 1) := by decide +kernel
theorem d_Mo_giveOn_54 : decode c_Mo_giveOn 54 = .ok (.getfield 143, 3) := by decide +kernel
theorem d_Mo_giveOn_57 : decode c_Mo_giveOn 57 = .ok (.iaload, 1) := by decide +kernel
theorem d_Mo_giveOn_58 : decode c_Mo_giveOn 58 = .ok (.ifCond .ne 35, 3) := by decide +kernel
theorem d_Mo_giveOn_61 : decode c_Mo_giveOn 61 = .ok (.aload_n 0, 1) := by decide +kernel
theorem d_Mo_giveOn_62 : decode c_Mo_giveOn 62 = .ok (.aload_n 0, 1) := by decide +kernel
theorem d_Mo_giveOn_63 : decode c_Mo_giveOn 63 = .ok (.getfield 168, 3) := by decide +kernel
theorem d_Mo_giveOn_66 : decode c_Mo_giveOn 66 = .ok (.sipush 30000, 3) := by decide +kernel
theorem d_Mo_giveOn_69 : decode c_Mo_giveOn 69 = .ok (.if_icmp .ne 7, 3) := by decide +kernel
theorem d_Mo_giveOn_72 : decode c_Mo_giveOn 72 = .ok (.iconst 1, 1) := by decide +kernel
theorem d_Mo_giveOn_73 : decode c_Mo_giveOn 73 = .ok (.goto 4, 3) := by decide +kernel
theorem d_Mo_giveOn_76 : decode c_Mo_giveOn 76 = .ok (.iconst 0, 1) := by decide +kernel
theorem d_Mo_giveOn_77 : decode c_Mo_giveOn 77 = .ok (.putfield 158, 3) := by decide +kernel
theorem d_Mo_giveOn_80 : decode c_Mo_giveOn 80 = .ok (.aload_n 0, 1) := by decide +kernel
theorem d_Mo_giveOn_81 : decode c_Mo_giveOn 81 = .ok (.dup, 1) := by decide +kernel
theorem d_Mo_giveOn_82 : decode c_Mo_giveOn 82 = .ok (.getfield 168, 3) := by decide +kernel
theorem d_Mo_giveOn_85 : decode c_Mo_giveOn 85 = .ok (.iconst 1, 1) := by decide +kernel
theorem d_Mo_giveOn_86 : decode c_Mo_giveOn 86 = .ok (.iadd, 1) := by decide +kernel
theorem d_Mo_giveOn_87 : decode c_Mo_giveOn 87 = .ok (.putfield 168, 3) := by decide +kernel
theorem d_Mo_giveOn_90 : decode c_Mo_giveOn 90 = .ok (.goto 75, 3) := by decide +kernel
theorem d_Mo_giveOn_93 : decode c_Mo_giveOn 93 = .ok (.aload_n 0, 1) := by decide +kernel
theorem d_Mo_giveOn_94 : decode c_Mo_giveOn 94 = .ok (.getfield 38, 3) := by decide +kernel
theorem d_Mo_giveOn_97 : decode c_Mo_giveOn 97 = .ok (.aload_n 0, 1) := by decide +kernel
theorem d_Mo_giveOn_98 : decode c_Mo_giveOn 98 = .ok (.getfield 143, 3) := by decide +kernel
theorem d_Mo_giveOn_101 : decode c_Mo_giveOn 101 = .ok (.iaload, 1) := by decide +kernel
theorem d_Mo_giveOn_102 : decode c_Mo_giveOn 102 = .ok (.iconst 1, 1) := by decide +kernel
theorem d_Mo_giveOn_103 : decode c_Mo_giveOn 103 = .ok (.if_icmp .ne 52, 3) := by decide +kernel
theorem d_Mo_giveOn_106 : decode c_Mo_giveOn 106 = .ok (.aload_n 0, 1) := by decide +kernel
theorem d_Mo_giveOn_107 : decode c_Mo_giveOn 107 = .ok (.getfield 53, 3) := by decide +kernel
theorem d_Mo_giveOn_110 : decode c_Mo_giveOn 110 = .ok (.aload_n 0, 1) := by decide +kernel
theorem d_Mo_giveOn_111 : decode c_Mo_giveOn 111 = .ok (.getfield 149, 3) := by decide +kernel
theorem d_Mo_giveOn_114 : decode c_Mo_giveOn 114 = .ok (.aload_n 0, 1) := by decide +kernel
theorem d_Mo_giveOn_115 : decode c_Mo_giveOn 115 = .ok (.getfield 152, 3) := by decide +kernel
theorem d_Mo_giveOn_118 : decode c_Mo_giveOn 118 = .ok (.iadd, 1) := by decide +kernel
theorem d_Mo_giveOn_119 : decode c_Mo_giveOn 119 = .ok (.aload_n 0, 1) := by decide +kernel
theorem d_Mo_giveOn_120 : decode c_Mo_giveOn 120 = .ok (.getfield 168, 3) := by decide +kernel
theorem d_Mo_giveOn_123 : decode c_Mo_giveOn 123 = .ok (.iastore, 1) := by decide +kernel
theorem d_Mo_giveOn_124 : decode c_Mo_giveOn 124 = .ok (.aload_n 0, 1) := by decide +kernel
theorem d_Mo_giveOn_125 : decode c_Mo_giveOn 125 = .ok (.dup, 1) := by decide +kernel
theorem d_Mo_giveOn_126 : decode c_Mo_giveOn 126 = .ok (.getfield 152, 3) := by decide +kernel
theorem d_Mo_giveOn_129 : decode c_Mo_giveOn 129 = .ok (.iconst 1, 1) := by decide +kernel
theorem d_Mo_giveOn_130 : decode c_Mo_giveOn 130 = .ok (.iadd, 1) := by decide +kernel
theorem d_Mo_giveOn_131 : decode c_Mo_giveOn 131 = .ok (.putfield 152, 3) := by decide +kernel
theorem d_Mo_giveOn_134 : decode c_Mo_giveOn 134 = .ok (.aload_n 0, 1) := by decide +kernel
theorem d_Mo_giveOn_135 : decode c_Mo_giveOn 135 = .ok (.aload_n 0, 1) := by decide +kernel
theorem d_Mo_giveOn_136 : decode c_Mo_giveOn 136 = .ok (.getfield 44, 3) := by decide +kernel
theorem d_Mo_giveOn_139 : decode c_Mo_giveOn 139 = .ok (.aload_n 0, 1) := by decide +kernel
theorem d_Mo_giveOn_140 : decode c_Mo_giveOn 140 = .ok (.getfield 143, 3) := by decide +kernel
theorem d_Mo_giveOn_143 : decode c_Mo_giveOn 143 = .ok (.iaload, 1) := by decide +kernel
theorem d_Mo_giveOn_144 : decode c_Mo_giveOn 144 = .ok (.putfield 162, 3) := by decide +kernel
theorem d_Mo_giveOn_147 : decode c_Mo_giveOn 147 = .ok (.aload_n 0, 1) := by decide +kernel
theorem d_Mo_giveOn_148 : decode c_Mo_giveOn 148 = .ok (.iconst (-1), 1) := by decide +kernel
theorem d_Mo_giveOn_149 : decode c_Mo_giveOn 149 = .ok (.putfield 168, 3) := by decide +kernel
theorem d_Mo_giveOn_152 : decode c_Mo_giveOn 152 = .ok (.goto 13, 3) := by decide +kernel
theorem d_Mo_giveOn_155 : decode c_Mo_giveOn 155 = .ok (.aload_n 0, 1) := by decide +kernel
theorem d_Mo_giveOn_156 : decode c_Mo_giveOn 156 = .ok (.dup, 1) := by decide +kernel
theorem d_Mo_giveOn_157 : decode c_Mo_giveOn 157 = .ok (.getfield 155, 3) := by decide +kernel
theorem d_Mo_giveOn_160 : decode c_Mo_giveOn 160 = .ok (.iconst 1, 1) := by decide +kernel
theorem d_Mo_giveOn_161 : decode c_Mo_giveOn 161 = .ok (.isub, 1) := by decide +kernel
theorem d_Mo_giveOn_162 : decode c_Mo_giveOn 162 = .ok (.putfield 155, 3) := by decide +kernel
theorem d_Mo_giveOn_165 : decode c_Mo_giveOn 165 = .ok (.return_, 1) := by decide +kernel
set_option maxRecDepth 100000 in
set_option maxHeartbeats 16000000 in
/-- Mo_giveOn_0 -/
theorem g_Mo_giveOn_0 (l : Launch) (G : va_G) (k : Nat → ClassId) (h0 : Nat) (s0 : Nat) (wt : Nat) (vl : Nat) (ma : Nat → Nat) (iv : Nat → Int32) (co : Int64) (WK : Nat → Nat) (WF : Nat → Nat) (WA : Nat → Nat) (WB : Nat → Nat) (WN : Nat → Nat) (hwt : wt < 1200) (hvl : vl ≤ 30000) (hk : WK wt = 0) (hv2 : vl < 30000) : CV l y_Mo_giveOn c_Mo_giveOn 1 { frames := 0, cells := 0, slots := 0, locals := 0 } [.ref h0] G k s0 [(h0, .inr (8, moL ma (va_up (va_up iv 5 (nI (wt + 1))) 12 (nI vl)) co)), ((ma 7), .inl (k 0, 1200, .inl (fun i => nI (WK i)))), ((ma 8), .inl (k 0, 1200, .inl (fun i => nI (WF i)))), ((ma 9), .inl (k 0, 1200, .inl (fun i => nI (WA i)))), ((ma 10), .inl (k 0, 1200, .inl (fun i => nI (WB i)))), ((ma 11), .inl (k 0, 1200, .inl (fun i => nI (WN i))))] (fun (u : Unit) => True) (fun u => [(h0, .inr (8, moL ma (va_up (va_up (va_up (va_up (va_up (va_up iv 5 (nI wt)) 8 (nI (WF wt))) 6 (nI (WB wt))) 7 (nI (WN wt))) 11 0) 12 (nI (vl + 1))) co)), ((ma 7), .inl (k 0, 1200, .inl (fun i => nI (WK i)))), ((ma 8), .inl (k 0, 1200, .inl (fun i => nI (WF i)))), ((ma 9), .inl (k 0, 1200, .inl (fun i => nI (WA i)))), ((ma 10), .inl (k 0, 1200, .inl (fun i => nI (WB i)))), ((ma 11), .inl (k 0, 1200, .inl (fun i => nI (WN i))))]) 0 0 := by
  refine met_start (by decide) (Nat.le_of_ble_eq_true rfl) ?_
  intro p e s m below meth c C K hA hsz S ls hl
  generalize va_A [(h0, .inr (8, moL ma (va_up (va_up iv 5 (nI (wt + 1))) 12 (nI vl)) co)), ((ma 7), .inl (k 0, 1200, .inl (fun i => nI (WK i)))), ((ma 8), .inl (k 0, 1200, .inl (fun i => nI (WF i)))), ((ma 9), .inl (k 0, 1200, .inl (fun i => nI (WA i)))), ((ma 10), .inl (k 0, 1200, .inl (fun i => nI (WB i)))), ((ma 11), .inl (k 0, 1200, .inl (fun i => nI (WN i))))] s0 = A at hA S ⊢
  have hx := C.1
  have hb := C.2.1
  have hl : lv_has ls 1 [(0, .ref h0)] := hl
  refine lv_aload_n hx hb d_Mo_giveOn_0 rfl (lv_at hl 0 rfl) ?_
  refine lv_dup hx hb d_Mo_giveOn_1 rfl ?_
  refine r_get C K S 0 rfl rfl clOk_Mo 18 (by decide) wf_Mo_143 (v := .int (nI (wt + 1))) rfl d_Mo_giveOn_2 ?_
  refine lv_iconst (v := 1) hx hb d_Mo_giveOn_5 (by decide) ?_
  refine z_isub (x := nI (wt + 1)) (y := 1) (v := nI (wt + 1 - 1)) hx hb d_Mo_giveOn_6 (pk_sub (a := (wt + 1)) (b := 1) (by omega)) ?_
  refine r_put C K S 0 rfl rfl clOk_Mo 18 (by decide) wf_Mo_143 rfl (ty := .int) (v := .int (nI (wt + 1 - 1))) (by decide +kernel) rfl rfl (Nat.le_of_ble_eq_true rfl) (fs' := moL ma (va_up (va_up iv 12 (nI vl)) 5 (nI (wt + 1 - 1))) co) (ws' := [(h0, .inr (8, moL ma (va_up (va_up iv 12 (nI vl)) 5 (nI (wt + 1 - 1))) co)), ((ma 7), .inl (k 0, 1200, .inl (fun i => nI (WK i)))), ((ma 8), .inl (k 0, 1200, .inl (fun i => nI (WF i)))), ((ma 9), .inl (k 0, 1200, .inl (fun i => nI (WA i)))), ((ma 10), .inl (k 0, 1200, .inl (fun i => nI (WB i)))), ((ma 11), .inl (k 0, 1200, .inl (fun i => nI (WN i))))]) rfl rfl d_Mo_giveOn_7 (fun H locs S => ?_)
  have S : Sw G A s.heap H locs [(h0, .inr (8, moL ma (va_up (va_up iv 12 (nI vl)) 5 (nI wt)) co)), ((ma 7), .inl (k 0, 1200, .inl (fun i => nI (WK i)))), ((ma 8), .inl (k 0, 1200, .inl (fun i => nI (WF i)))), ((ma 9), .inl (k 0, 1200, .inl (fun i => nI (WA i)))), ((ma 10), .inl (k 0, 1200, .inl (fun i => nI (WB i)))), ((ma 11), .inl (k 0, 1200, .inl (fun i => nI (WN i))))] := S
  refine lv_aload_n hx hb d_Mo_giveOn_10 rfl (lv_at hl 0 rfl) ?_
  refine lv_aload_n hx hb d_Mo_giveOn_11 rfl (lv_at hl 0 rfl) ?_
  refine r_get C K S 0 rfl rfl clOk_Mo 14 (by decide) wf_Mo_41 (v := .ref (ma 8)) rfl d_Mo_giveOn_12 ?_
  refine lv_aload_n hx hb d_Mo_giveOn_15 rfl (lv_at hl 0 rfl) ?_
  refine r_get C K S 0 rfl rfl clOk_Mo 18 (by decide) wf_Mo_143 (v := .int (nI wt)) rfl d_Mo_giveOn_16 ?_
  refine r_iald C K S 2 rfl (i := nI wt) (show vp_in (nI wt) _ from vp_in_nI (n := wt) (by omega) (by decide)) (v := nI (WF wt)) (by rw [nI_clamp (by omega)]) d_Mo_giveOn_19 ?_
  refine r_put C K S 0 rfl rfl clOk_Mo 22 (by decide) wf_Mo_146 rfl (ty := .int) (v := .int (nI (WF wt))) (by decide +kernel) rfl rfl (Nat.le_of_ble_eq_true rfl) (fs' := moL ma (va_up (va_up (va_up iv 12 (nI vl)) 5 (nI wt)) 8 (nI (WF wt))) co) (ws' := [(h0, .inr (8, moL ma (va_up (va_up (va_up iv 12 (nI vl)) 5 (nI wt)) 8 (nI (WF wt))) co)), ((ma 7), .inl (k 0, 1200, .inl (fun i => nI (WK i)))), ((ma 8), .inl (k 0, 1200, .inl (fun i => nI (WF i)))), ((ma 9), .inl (k 0, 1200, .inl (fun i => nI (WA i)))), ((ma 10), .inl (k 0, 1200, .inl (fun i => nI (WB i)))), ((ma 11), .inl (k 0, 1200, .inl (fun i => nI (WN i))))]) rfl rfl d_Mo_giveOn_20 (fun H locs S => ?_)
  refine lv_aload_n hx hb d_Mo_giveOn_23 rfl (lv_at hl 0 rfl) ?_
  refine lv_aload_n hx hb d_Mo_giveOn_24 rfl (lv_at hl 0 rfl) ?_
  refine r_get C K S 0 rfl rfl clOk_Mo 16 (by decide) wf_Mo_47 (v := .ref (ma 10)) rfl d_Mo_giveOn_25 ?_
  refine lv_aload_n hx hb d_Mo_giveOn_28 rfl (lv_at hl 0 rfl) ?_
  refine r_get C K S 0 rfl rfl clOk_Mo 18 (by decide) wf_Mo_143 (v := .int (nI wt)) rfl d_Mo_giveOn_29 ?_
  refine r_iald C K S 4 rfl (i := nI wt) (show vp_in (nI wt) _ from vp_in_nI (n := wt) (by omega) (by decide)) (v := nI (WB wt)) (by rw [nI_clamp (by omega)]) d_Mo_giveOn_32 ?_
  refine r_put C K S 0 rfl rfl clOk_Mo 20 (by decide) wf_Mo_149 rfl (ty := .int) (v := .int (nI (WB wt))) (by decide +kernel) rfl rfl (Nat.le_of_ble_eq_true rfl) (fs' := moL ma (va_up (va_up (va_up (va_up iv 12 (nI vl)) 5 (nI wt)) 8 (nI (WF wt))) 6 (nI (WB wt))) co) (ws' := [(h0, .inr (8, moL ma (va_up (va_up (va_up (va_up iv 12 (nI vl)) 5 (nI wt)) 8 (nI (WF wt))) 6 (nI (WB wt))) co)), ((ma 7), .inl (k 0, 1200, .inl (fun i => nI (WK i)))), ((ma 8), .inl (k 0, 1200, .inl (fun i => nI (WF i)))), ((ma 9), .inl (k 0, 1200, .inl (fun i => nI (WA i)))), ((ma 10), .inl (k 0, 1200, .inl (fun i => nI (WB i)))), ((ma 11), .inl (k 0, 1200, .inl (fun i => nI (WN i))))]) rfl rfl d_Mo_giveOn_33 (fun H locs S => ?_)
  refine lv_aload_n hx hb d_Mo_giveOn_36 rfl (lv_at hl 0 rfl) ?_
  refine lv_aload_n hx hb d_Mo_giveOn_37 rfl (lv_at hl 0 rfl) ?_
  refine r_get C K S 0 rfl rfl clOk_Mo 17 (by decide) wf_Mo_50 (v := .ref (ma 11)) rfl d_Mo_giveOn_38 ?_
  refine lv_aload_n hx hb d_Mo_giveOn_41 rfl (lv_at hl 0 rfl) ?_
  refine r_get C K S 0 rfl rfl clOk_Mo 18 (by decide) wf_Mo_143 (v := .int (nI wt)) rfl d_Mo_giveOn_42 ?_
  refine r_iald C K S 5 rfl (i := nI wt) (show vp_in (nI wt) _ from vp_in_nI (n := wt) (by omega) (by decide)) (v := nI (WN wt)) (by rw [nI_clamp (by omega)]) d_Mo_giveOn_45 ?_
  refine r_put C K S 0 rfl rfl clOk_Mo 21 (by decide) wf_Mo_152 rfl (ty := .int) (v := .int (nI (WN wt))) (by decide +kernel) rfl rfl (Nat.le_of_ble_eq_true rfl) (fs' := moL ma (va_up (va_up (va_up (va_up (va_up iv 12 (nI vl)) 5 (nI wt)) 8 (nI (WF wt))) 6 (nI (WB wt))) 7 (nI (WN wt))) co) (ws' := [(h0, .inr (8, moL ma (va_up (va_up (va_up (va_up (va_up iv 12 (nI vl)) 5 (nI wt)) 8 (nI (WF wt))) 6 (nI (WB wt))) 7 (nI (WN wt))) co)), ((ma 7), .inl (k 0, 1200, .inl (fun i => nI (WK i)))), ((ma 8), .inl (k 0, 1200, .inl (fun i => nI (WF i)))), ((ma 9), .inl (k 0, 1200, .inl (fun i => nI (WA i)))), ((ma 10), .inl (k 0, 1200, .inl (fun i => nI (WB i)))), ((ma 11), .inl (k 0, 1200, .inl (fun i => nI (WN i))))]) rfl rfl d_Mo_giveOn_46 (fun H locs S => ?_)
  refine lv_aload_n hx hb d_Mo_giveOn_49 rfl (lv_at hl 0 rfl) ?_
  refine r_get C K S 0 rfl rfl clOk_Mo 13 (by decide) wf_Mo_38 (v := .ref (ma 7)) rfl d_Mo_giveOn_50 ?_
  refine lv_aload_n hx hb d_Mo_giveOn_53 rfl (lv_at hl 0 rfl) ?_
  refine r_get C K S 0 rfl rfl clOk_Mo 18 (by decide) wf_Mo_143 (v := .int (nI wt)) rfl d_Mo_giveOn_54 ?_
  refine r_iald C K S 1 rfl (i := nI wt) (show vp_in (nI wt) _ from vp_in_nI (n := wt) (by omega) (by decide)) (v := nI (WK wt)) (by rw [nI_clamp (by omega)]) d_Mo_giveOn_57 ?_
  rw [hk]
  refine z_if_ne (a := 0) (tgt := 93) hx hb d_Mo_giveOn_58 (by decide) (by omega) (fun hc1 => False.elim (by omega)) (fun hc1 => ?_)
  refine lv_aload_n hx hb d_Mo_giveOn_61 rfl (lv_at hl 0 rfl) ?_
  refine lv_aload_n hx hb d_Mo_giveOn_62 rfl (lv_at hl 0 rfl) ?_
  refine r_get C K S 0 rfl rfl clOk_Mo 26 (by decide) wf_Mo_168 (v := .int (nI vl)) rfl d_Mo_giveOn_63 ?_
  refine lv_sipush (v := 30000) hx hb d_Mo_giveOn_66 (by decide) ?_
  refine z_icmp_ne (a := vl) (b := 30000) (tgt := 76) hx hb d_Mo_giveOn_69 (by decide) (by omega) (by omega) (fun hc2 => ?_) (fun hc2 => False.elim (by omega))
  refine lv_iconst (v := 0) hx hb d_Mo_giveOn_76 (by decide) ?_
  refine r_put C K S 0 rfl rfl clOk_Mo 25 (by decide) wf_Mo_158 rfl (ty := .boolean) (v := .int 0) (by decide +kernel) rfl rfl (Nat.le_of_ble_eq_true rfl) (fs' := moL ma (va_up (va_up (va_up (va_up (va_up (va_up iv 12 (nI vl)) 5 (nI wt)) 8 (nI (WF wt))) 6 (nI (WB wt))) 7 (nI (WN wt))) 11 0) co) (ws' := [(h0, .inr (8, moL ma (va_up (va_up (va_up (va_up (va_up (va_up iv 12 (nI vl)) 5 (nI wt)) 8 (nI (WF wt))) 6 (nI (WB wt))) 7 (nI (WN wt))) 11 0) co)), ((ma 7), .inl (k 0, 1200, .inl (fun i => nI (WK i)))), ((ma 8), .inl (k 0, 1200, .inl (fun i => nI (WF i)))), ((ma 9), .inl (k 0, 1200, .inl (fun i => nI (WA i)))), ((ma 10), .inl (k 0, 1200, .inl (fun i => nI (WB i)))), ((ma 11), .inl (k 0, 1200, .inl (fun i => nI (WN i))))]) rfl rfl d_Mo_giveOn_77 (fun H locs S => ?_)
  refine lv_aload_n hx hb d_Mo_giveOn_80 rfl (lv_at hl 0 rfl) ?_
  refine lv_dup hx hb d_Mo_giveOn_81 rfl ?_
  refine r_get C K S 0 rfl rfl clOk_Mo 26 (by decide) wf_Mo_168 (v := .int (nI vl)) rfl d_Mo_giveOn_82 ?_
  refine lv_iconst (v := 1) hx hb d_Mo_giveOn_85 (by decide) ?_
  refine z_iadd (x := nI vl) (y := 1) (v := nI (vl + 1)) hx hb d_Mo_giveOn_86 (nI_add vl 1) ?_
  refine r_put C K S 0 rfl rfl clOk_Mo 26 (by decide) wf_Mo_168 rfl (ty := .int) (v := .int (nI (vl + 1))) (by decide +kernel) rfl rfl (Nat.le_of_ble_eq_true rfl) (fs' := moL ma (va_up (va_up (va_up (va_up (va_up (va_up iv 5 (nI wt)) 8 (nI (WF wt))) 6 (nI (WB wt))) 7 (nI (WN wt))) 11 0) 12 (nI (vl + 1))) co) (ws' := [(h0, .inr (8, moL ma (va_up (va_up (va_up (va_up (va_up (va_up iv 5 (nI wt)) 8 (nI (WF wt))) 6 (nI (WB wt))) 7 (nI (WN wt))) 11 0) 12 (nI (vl + 1))) co)), ((ma 7), .inl (k 0, 1200, .inl (fun i => nI (WK i)))), ((ma 8), .inl (k 0, 1200, .inl (fun i => nI (WF i)))), ((ma 9), .inl (k 0, 1200, .inl (fun i => nI (WA i)))), ((ma 10), .inl (k 0, 1200, .inl (fun i => nI (WB i)))), ((ma 11), .inl (k 0, 1200, .inl (fun i => nI (WN i))))]) rfl rfl d_Mo_giveOn_87 (fun H locs S => ?_)
  refine lv_goto (tgt := 165) hx hb d_Mo_giveOn_90 (by decide) ?_
  exact r_vret C K () trivial (S.sub [0, 1, 2, 3, 4, 5] (by decide) rfl) d_Mo_giveOn_165 (Nat.le_of_ble_eq_true rfl) (Nat.le_of_ble_eq_true rfl)
set_option maxRecDepth 100000 in
set_option maxHeartbeats 16000000 in
/-- Mo_giveOn_0l -/
theorem g_Mo_giveOn_0l (l : Launch) (G : va_G) (k : Nat → ClassId) (h0 : Nat) (s0 : Nat) (wt : Nat) (vl : Nat) (ma : Nat → Nat) (iv : Nat → Int32) (co : Int64) (WK : Nat → Nat) (WF : Nat → Nat) (WA : Nat → Nat) (WB : Nat → Nat) (WN : Nat → Nat) (hwt : wt < 1200) (hvl : vl ≤ 30000) (hk : WK wt = 0) (hv2 : vl = 30000) : CV l y_Mo_giveOn c_Mo_giveOn 1 { frames := 0, cells := 0, slots := 0, locals := 0 } [.ref h0] G k s0 [(h0, .inr (8, moL ma (va_up (va_up iv 5 (nI (wt + 1))) 12 (nI vl)) co)), ((ma 7), .inl (k 0, 1200, .inl (fun i => nI (WK i)))), ((ma 8), .inl (k 0, 1200, .inl (fun i => nI (WF i)))), ((ma 9), .inl (k 0, 1200, .inl (fun i => nI (WA i)))), ((ma 10), .inl (k 0, 1200, .inl (fun i => nI (WB i)))), ((ma 11), .inl (k 0, 1200, .inl (fun i => nI (WN i))))] (fun (u : Unit) => True) (fun u => [(h0, .inr (8, moL ma (va_up (va_up (va_up (va_up (va_up (va_up iv 5 (nI wt)) 8 (nI (WF wt))) 6 (nI (WB wt))) 7 (nI (WN wt))) 11 1) 12 (nI (vl + 1))) co)), ((ma 7), .inl (k 0, 1200, .inl (fun i => nI (WK i)))), ((ma 8), .inl (k 0, 1200, .inl (fun i => nI (WF i)))), ((ma 9), .inl (k 0, 1200, .inl (fun i => nI (WA i)))), ((ma 10), .inl (k 0, 1200, .inl (fun i => nI (WB i)))), ((ma 11), .inl (k 0, 1200, .inl (fun i => nI (WN i))))]) 0 0 := by
  refine met_start (by decide) (Nat.le_of_ble_eq_true rfl) ?_
  intro p e s m below meth c C K hA hsz S ls hl
  generalize va_A [(h0, .inr (8, moL ma (va_up (va_up iv 5 (nI (wt + 1))) 12 (nI vl)) co)), ((ma 7), .inl (k 0, 1200, .inl (fun i => nI (WK i)))), ((ma 8), .inl (k 0, 1200, .inl (fun i => nI (WF i)))), ((ma 9), .inl (k 0, 1200, .inl (fun i => nI (WA i)))), ((ma 10), .inl (k 0, 1200, .inl (fun i => nI (WB i)))), ((ma 11), .inl (k 0, 1200, .inl (fun i => nI (WN i))))] s0 = A at hA S ⊢
  have hx := C.1
  have hb := C.2.1
  have hl : lv_has ls 1 [(0, .ref h0)] := hl
  refine lv_aload_n hx hb d_Mo_giveOn_0 rfl (lv_at hl 0 rfl) ?_
  refine lv_dup hx hb d_Mo_giveOn_1 rfl ?_
  refine r_get C K S 0 rfl rfl clOk_Mo 18 (by decide) wf_Mo_143 (v := .int (nI (wt + 1))) rfl d_Mo_giveOn_2 ?_
  refine lv_iconst (v := 1) hx hb d_Mo_giveOn_5 (by decide) ?_
  refine z_isub (x := nI (wt + 1)) (y := 1) (v := nI (wt + 1 - 1)) hx hb d_Mo_giveOn_6 (pk_sub (a := (wt + 1)) (b := 1) (by omega)) ?_
  refine r_put C K S 0 rfl rfl clOk_Mo 18 (by decide) wf_Mo_143 rfl (ty := .int) (v := .int (nI (wt + 1 - 1))) (by decide +kernel) rfl rfl (Nat.le_of_ble_eq_true rfl) (fs' := moL ma (va_up (va_up iv 12 (nI vl)) 5 (nI (wt + 1 - 1))) co) (ws' := [(h0, .inr (8, moL ma (va_up (va_up iv 12 (nI vl)) 5 (nI (wt + 1 - 1))) co)), ((ma 7), .inl (k 0, 1200, .inl (fun i => nI (WK i)))), ((ma 8), .inl (k 0, 1200, .inl (fun i => nI (WF i)))), ((ma 9), .inl (k 0, 1200, .inl (fun i => nI (WA i)))), ((ma 10), .inl (k 0, 1200, .inl (fun i => nI (WB i)))), ((ma 11), .inl (k 0, 1200, .inl (fun i => nI (WN i))))]) rfl rfl d_Mo_giveOn_7 (fun H locs S => ?_)
  have S : Sw G A s.heap H locs [(h0, .inr (8, moL ma (va_up (va_up iv 12 (nI vl)) 5 (nI wt)) co)), ((ma 7), .inl (k 0, 1200, .inl (fun i => nI (WK i)))), ((ma 8), .inl (k 0, 1200, .inl (fun i => nI (WF i)))), ((ma 9), .inl (k 0, 1200, .inl (fun i => nI (WA i)))), ((ma 10), .inl (k 0, 1200, .inl (fun i => nI (WB i)))), ((ma 11), .inl (k 0, 1200, .inl (fun i => nI (WN i))))] := S
  refine lv_aload_n hx hb d_Mo_giveOn_10 rfl (lv_at hl 0 rfl) ?_
  refine lv_aload_n hx hb d_Mo_giveOn_11 rfl (lv_at hl 0 rfl) ?_
  refine r_get C K S 0 rfl rfl clOk_Mo 14 (by decide) wf_Mo_41 (v := .ref (ma 8)) rfl d_Mo_giveOn_12 ?_
  refine lv_aload_n hx hb d_Mo_giveOn_15 rfl (lv_at hl 0 rfl) ?_
  refine r_get C K S 0 rfl rfl clOk_Mo 18 (by decide) wf_Mo_143 (v := .int (nI wt)) rfl d_Mo_giveOn_16 ?_
  refine r_iald C K S 2 rfl (i := nI wt) (show vp_in (nI wt) _ from vp_in_nI (n := wt) (by omega) (by decide)) (v := nI (WF wt)) (by rw [nI_clamp (by omega)]) d_Mo_giveOn_19 ?_
  refine r_put C K S 0 rfl rfl clOk_Mo 22 (by decide) wf_Mo_146 rfl (ty := .int) (v := .int (nI (WF wt))) (by decide +kernel) rfl rfl (Nat.le_of_ble_eq_true rfl) (fs' := moL ma (va_up (va_up (va_up iv 12 (nI vl)) 5 (nI wt)) 8 (nI (WF wt))) co) (ws' := [(h0, .inr (8, moL ma (va_up (va_up (va_up iv 12 (nI vl)) 5 (nI wt)) 8 (nI (WF wt))) co)), ((ma 7), .inl (k 0, 1200, .inl (fun i => nI (WK i)))), ((ma 8), .inl (k 0, 1200, .inl (fun i => nI (WF i)))), ((ma 9), .inl (k 0, 1200, .inl (fun i => nI (WA i)))), ((ma 10), .inl (k 0, 1200, .inl (fun i => nI (WB i)))), ((ma 11), .inl (k 0, 1200, .inl (fun i => nI (WN i))))]) rfl rfl d_Mo_giveOn_20 (fun H locs S => ?_)
  refine lv_aload_n hx hb d_Mo_giveOn_23 rfl (lv_at hl 0 rfl) ?_
  refine lv_aload_n hx hb d_Mo_giveOn_24 rfl (lv_at hl 0 rfl) ?_
  refine r_get C K S 0 rfl rfl clOk_Mo 16 (by decide) wf_Mo_47 (v := .ref (ma 10)) rfl d_Mo_giveOn_25 ?_
  refine lv_aload_n hx hb d_Mo_giveOn_28 rfl (lv_at hl 0 rfl) ?_
  refine r_get C K S 0 rfl rfl clOk_Mo 18 (by decide) wf_Mo_143 (v := .int (nI wt)) rfl d_Mo_giveOn_29 ?_
  refine r_iald C K S 4 rfl (i := nI wt) (show vp_in (nI wt) _ from vp_in_nI (n := wt) (by omega) (by decide)) (v := nI (WB wt)) (by rw [nI_clamp (by omega)]) d_Mo_giveOn_32 ?_
  refine r_put C K S 0 rfl rfl clOk_Mo 20 (by decide) wf_Mo_149 rfl (ty := .int) (v := .int (nI (WB wt))) (by decide +kernel) rfl rfl (Nat.le_of_ble_eq_true rfl) (fs' := moL ma (va_up (va_up (va_up (va_up iv 12 (nI vl)) 5 (nI wt)) 8 (nI (WF wt))) 6 (nI (WB wt))) co) (ws' := [(h0, .inr (8, moL ma (va_up (va_up (va_up (va_up iv 12 (nI vl)) 5 (nI wt)) 8 (nI (WF wt))) 6 (nI (WB wt))) co)), ((ma 7), .inl (k 0, 1200, .inl (fun i => nI (WK i)))), ((ma 8), .inl (k 0, 1200, .inl (fun i => nI (WF i)))), ((ma 9), .inl (k 0, 1200, .inl (fun i => nI (WA i)))), ((ma 10), .inl (k 0, 1200, .inl (fun i => nI (WB i)))), ((ma 11), .inl (k 0, 1200, .inl (fun i => nI (WN i))))]) rfl rfl d_Mo_giveOn_33 (fun H locs S => ?_)
  refine lv_aload_n hx hb d_Mo_giveOn_36 rfl (lv_at hl 0 rfl) ?_
  refine lv_aload_n hx hb d_Mo_giveOn_37 rfl (lv_at hl 0 rfl) ?_
  refine r_get C K S 0 rfl rfl clOk_Mo 17 (by decide) wf_Mo_50 (v := .ref (ma 11)) rfl d_Mo_giveOn_38 ?_
  refine lv_aload_n hx hb d_Mo_giveOn_41 rfl (lv_at hl 0 rfl) ?_
  refine r_get C K S 0 rfl rfl clOk_Mo 18 (by decide) wf_Mo_143 (v := .int (nI wt)) rfl d_Mo_giveOn_42 ?_
  refine r_iald C K S 5 rfl (i := nI wt) (show vp_in (nI wt) _ from vp_in_nI (n := wt) (by omega) (by decide)) (v := nI (WN wt)) (by rw [nI_clamp (by omega)]) d_Mo_giveOn_45 ?_
  refine r_put C K S 0 rfl rfl clOk_Mo 21 (by decide) wf_Mo_152 rfl (ty := .int) (v := .int (nI (WN wt))) (by decide +kernel) rfl rfl (Nat.le_of_ble_eq_true rfl) (fs' := moL ma (va_up (va_up (va_up (va_up (va_up iv 12 (nI vl)) 5 (nI wt)) 8 (nI (WF wt))) 6 (nI (WB wt))) 7 (nI (WN wt))) co) (ws' := [(h0, .inr (8, moL ma (va_up (va_up (va_up (va_up (va_up iv 12 (nI vl)) 5 (nI wt)) 8 (nI (WF wt))) 6 (nI (WB wt))) 7 (nI (WN wt))) co)), ((ma 7), .inl (k 0, 1200, .inl (fun i => nI (WK i)))), ((ma 8), .inl (k 0, 1200, .inl (fun i => nI (WF i)))), ((ma 9), .inl (k 0, 1200, .inl (fun i => nI (WA i)))), ((ma 10), .inl (k 0, 1200, .inl (fun i => nI (WB i)))), ((ma 11), .inl (k 0, 1200, .inl (fun i => nI (WN i))))]) rfl rfl d_Mo_giveOn_46 (fun H locs S => ?_)
  refine lv_aload_n hx hb d_Mo_giveOn_49 rfl (lv_at hl 0 rfl) ?_
  refine r_get C K S 0 rfl rfl clOk_Mo 13 (by decide) wf_Mo_38 (v := .ref (ma 7)) rfl d_Mo_giveOn_50 ?_
  refine lv_aload_n hx hb d_Mo_giveOn_53 rfl (lv_at hl 0 rfl) ?_
  refine r_get C K S 0 rfl rfl clOk_Mo 18 (by decide) wf_Mo_143 (v := .int (nI wt)) rfl d_Mo_giveOn_54 ?_
  refine r_iald C K S 1 rfl (i := nI wt) (show vp_in (nI wt) _ from vp_in_nI (n := wt) (by omega) (by decide)) (v := nI (WK wt)) (by rw [nI_clamp (by omega)]) d_Mo_giveOn_57 ?_
  rw [hk]
  refine z_if_ne (a := 0) (tgt := 93) hx hb d_Mo_giveOn_58 (by decide) (by omega) (fun hc1 => False.elim (by omega)) (fun hc1 => ?_)
  refine lv_aload_n hx hb d_Mo_giveOn_61 rfl (lv_at hl 0 rfl) ?_
  refine lv_aload_n hx hb d_Mo_giveOn_62 rfl (lv_at hl 0 rfl) ?_
  refine r_get C K S 0 rfl rfl clOk_Mo 26 (by decide) wf_Mo_168 (v := .int (nI vl)) rfl d_Mo_giveOn_63 ?_
  refine lv_sipush (v := 30000) hx hb d_Mo_giveOn_66 (by decide) ?_
  refine z_icmp_ne (a := vl) (b := 30000) (tgt := 76) hx hb d_Mo_giveOn_69 (by decide) (by omega) (by omega) (fun hc2 => False.elim (by omega)) (fun hc2 => ?_)
  refine lv_iconst (v := 1) hx hb d_Mo_giveOn_72 (by decide) ?_
  refine lv_goto (tgt := 77) hx hb d_Mo_giveOn_73 (by decide) ?_
  refine r_put C K S 0 rfl rfl clOk_Mo 25 (by decide) wf_Mo_158 rfl (ty := .boolean) (v := .int 1) (by decide +kernel) rfl rfl (Nat.le_of_ble_eq_true rfl) (fs' := moL ma (va_up (va_up (va_up (va_up (va_up (va_up iv 12 (nI vl)) 5 (nI wt)) 8 (nI (WF wt))) 6 (nI (WB wt))) 7 (nI (WN wt))) 11 1) co) (ws' := [(h0, .inr (8, moL ma (va_up (va_up (va_up (va_up (va_up (va_up iv 12 (nI vl)) 5 (nI wt)) 8 (nI (WF wt))) 6 (nI (WB wt))) 7 (nI (WN wt))) 11 1) co)), ((ma 7), .inl (k 0, 1200, .inl (fun i => nI (WK i)))), ((ma 8), .inl (k 0, 1200, .inl (fun i => nI (WF i)))), ((ma 9), .inl (k 0, 1200, .inl (fun i => nI (WA i)))), ((ma 10), .inl (k 0, 1200, .inl (fun i => nI (WB i)))), ((ma 11), .inl (k 0, 1200, .inl (fun i => nI (WN i))))]) rfl rfl d_Mo_giveOn_77 (fun H locs S => ?_)
  refine lv_aload_n hx hb d_Mo_giveOn_80 rfl (lv_at hl 0 rfl) ?_
  refine lv_dup hx hb d_Mo_giveOn_81 rfl ?_
  refine r_get C K S 0 rfl rfl clOk_Mo 26 (by decide) wf_Mo_168 (v := .int (nI vl)) rfl d_Mo_giveOn_82 ?_
  refine lv_iconst (v := 1) hx hb d_Mo_giveOn_85 (by decide) ?_
  refine z_iadd (x := nI vl) (y := 1) (v := nI (vl + 1)) hx hb d_Mo_giveOn_86 (nI_add vl 1) ?_
  refine r_put C K S 0 rfl rfl clOk_Mo 26 (by decide) wf_Mo_168 rfl (ty := .int) (v := .int (nI (vl + 1))) (by decide +kernel) rfl rfl (Nat.le_of_ble_eq_true rfl) (fs' := moL ma (va_up (va_up (va_up (va_up (va_up (va_up iv 5 (nI wt)) 8 (nI (WF wt))) 6 (nI (WB wt))) 7 (nI (WN wt))) 11 1) 12 (nI (vl + 1))) co) (ws' := [(h0, .inr (8, moL ma (va_up (va_up (va_up (va_up (va_up (va_up iv 5 (nI wt)) 8 (nI (WF wt))) 6 (nI (WB wt))) 7 (nI (WN wt))) 11 1) 12 (nI (vl + 1))) co)), ((ma 7), .inl (k 0, 1200, .inl (fun i => nI (WK i)))), ((ma 8), .inl (k 0, 1200, .inl (fun i => nI (WF i)))), ((ma 9), .inl (k 0, 1200, .inl (fun i => nI (WA i)))), ((ma 10), .inl (k 0, 1200, .inl (fun i => nI (WB i)))), ((ma 11), .inl (k 0, 1200, .inl (fun i => nI (WN i))))]) rfl rfl d_Mo_giveOn_87 (fun H locs S => ?_)
  refine lv_goto (tgt := 165) hx hb d_Mo_giveOn_90 (by decide) ?_
  exact r_vret C K () trivial (S.sub [0, 1, 2, 3, 4, 5] (by decide) rfl) d_Mo_giveOn_165 (Nat.le_of_ble_eq_true rfl) (Nat.le_of_ble_eq_true rfl)
set_option maxRecDepth 100000 in
set_option maxHeartbeats 16000000 in
/-- Mo_giveOn_1 -/
theorem g_Mo_giveOn_1 (l : Launch) (G : va_G) (k : Nat → ClassId) (h0 : Nat) (s0 : Nat) (wt : Nat) (vl : Nat) (vr : Nat → Int32) (ma : Nat → Nat) (iv : Nat → Int32) (co : Int64) (WK : Nat → Nat) (WF : Nat → Nat) (WA : Nat → Nat) (WB : Nat → Nat) (WN : Nat → Nat) (hwt : wt < 1200) (hvl : vl ≤ 30000) (hk : WK wt = 1) (hb9 : WB wt + WN wt < 1400) : CV l y_Mo_giveOn c_Mo_giveOn 1 { frames := 0, cells := 0, slots := 0, locals := 0 } [.ref h0] G k s0 [(h0, .inr (8, moL ma (va_up (va_up iv 5 (nI (wt + 1))) 12 (nI vl)) co)), ((ma 7), .inl (k 0, 1200, .inl (fun i => nI (WK i)))), ((ma 8), .inl (k 0, 1200, .inl (fun i => nI (WF i)))), ((ma 9), .inl (k 0, 1200, .inl (fun i => nI (WA i)))), ((ma 10), .inl (k 0, 1200, .inl (fun i => nI (WB i)))), ((ma 11), .inl (k 0, 1200, .inl (fun i => nI (WN i)))), ((ma 12), .inl (k 0, 1400, .inl vr))] (fun (u : Unit) => True) (fun u => [(h0, .inr (8, moL ma (va_up (va_up (va_up (va_up (va_up (va_up iv 5 (nI wt)) 8 (nI (WF wt))) 6 (nI (WB wt))) 7 (nI (WN wt + 1))) 9 (nI (WA wt))) 12 (-1)) co)), ((ma 7), .inl (k 0, 1200, .inl (fun i => nI (WK i)))), ((ma 8), .inl (k 0, 1200, .inl (fun i => nI (WF i)))), ((ma 9), .inl (k 0, 1200, .inl (fun i => nI (WA i)))), ((ma 10), .inl (k 0, 1200, .inl (fun i => nI (WB i)))), ((ma 11), .inl (k 0, 1200, .inl (fun i => nI (WN i)))), ((ma 12), .inl (k 0, 1400, .inl (va_up vr (WB wt + WN wt) (nI vl))))]) 0 0 := by
  refine met_start (by decide) (Nat.le_of_ble_eq_true rfl) ?_
  intro p e s m below meth c C K hA hsz S ls hl
  generalize va_A [(h0, .inr (8, moL ma (va_up (va_up iv 5 (nI (wt + 1))) 12 (nI vl)) co)), ((ma 7), .inl (k 0, 1200, .inl (fun i => nI (WK i)))), ((ma 8), .inl (k 0, 1200, .inl (fun i => nI (WF i)))), ((ma 9), .inl (k 0, 1200, .inl (fun i => nI (WA i)))), ((ma 10), .inl (k 0, 1200, .inl (fun i => nI (WB i)))), ((ma 11), .inl (k 0, 1200, .inl (fun i => nI (WN i)))), ((ma 12), .inl (k 0, 1400, .inl vr))] s0 = A at hA S ⊢
  have hx := C.1
  have hb := C.2.1
  have hl : lv_has ls 1 [(0, .ref h0)] := hl
  refine lv_aload_n hx hb d_Mo_giveOn_0 rfl (lv_at hl 0 rfl) ?_
  refine lv_dup hx hb d_Mo_giveOn_1 rfl ?_
  refine r_get C K S 0 rfl rfl clOk_Mo 18 (by decide) wf_Mo_143 (v := .int (nI (wt + 1))) rfl d_Mo_giveOn_2 ?_
  refine lv_iconst (v := 1) hx hb d_Mo_giveOn_5 (by decide) ?_
  refine z_isub (x := nI (wt + 1)) (y := 1) (v := nI (wt + 1 - 1)) hx hb d_Mo_giveOn_6 (pk_sub (a := (wt + 1)) (b := 1) (by omega)) ?_
  refine r_put C K S 0 rfl rfl clOk_Mo 18 (by decide) wf_Mo_143 rfl (ty := .int) (v := .int (nI (wt + 1 - 1))) (by decide +kernel) rfl rfl (Nat.le_of_ble_eq_true rfl) (fs' := moL ma (va_up (va_up iv 12 (nI vl)) 5 (nI (wt + 1 - 1))) co) (ws' := [(h0, .inr (8, moL ma (va_up (va_up iv 12 (nI vl)) 5 (nI (wt + 1 - 1))) co)), ((ma 7), .inl (k 0, 1200, .inl (fun i => nI (WK i)))), ((ma 8), .inl (k 0, 1200, .inl (fun i => nI (WF i)))), ((ma 9), .inl (k 0, 1200, .inl (fun i => nI (WA i)))), ((ma 10), .inl (k 0, 1200, .inl (fun i => nI (WB i)))), ((ma 11), .inl (k 0, 1200, .inl (fun i => nI (WN i)))), ((ma 12), .inl (k 0, 1400, .inl vr))]) rfl rfl d_Mo_giveOn_7 (fun H locs S => ?_)
  have S : Sw G A s.heap H locs [(h0, .inr (8, moL ma (va_up (va_up iv 12 (nI vl)) 5 (nI wt)) co)), ((ma 7), .inl (k 0, 1200, .inl (fun i => nI (WK i)))), ((ma 8), .inl (k 0, 1200, .inl (fun i => nI (WF i)))), ((ma 9), .inl (k 0, 1200, .inl (fun i => nI (WA i)))), ((ma 10), .inl (k 0, 1200, .inl (fun i => nI (WB i)))), ((ma 11), .inl (k 0, 1200, .inl (fun i => nI (WN i)))), ((ma 12), .inl (k 0, 1400, .inl vr))] := S
  refine lv_aload_n hx hb d_Mo_giveOn_10 rfl (lv_at hl 0 rfl) ?_
  refine lv_aload_n hx hb d_Mo_giveOn_11 rfl (lv_at hl 0 rfl) ?_
  refine r_get C K S 0 rfl rfl clOk_Mo 14 (by decide) wf_Mo_41 (v := .ref (ma 8)) rfl d_Mo_giveOn_12 ?_
  refine lv_aload_n hx hb d_Mo_giveOn_15 rfl (lv_at hl 0 rfl) ?_
  refine r_get C K S 0 rfl rfl clOk_Mo 18 (by decide) wf_Mo_143 (v := .int (nI wt)) rfl d_Mo_giveOn_16 ?_
  refine r_iald C K S 2 rfl (i := nI wt) (show vp_in (nI wt) _ from vp_in_nI (n := wt) (by omega) (by decide)) (v := nI (WF wt)) (by rw [nI_clamp (by omega)]) d_Mo_giveOn_19 ?_
  refine r_put C K S 0 rfl rfl clOk_Mo 22 (by decide) wf_Mo_146 rfl (ty := .int) (v := .int (nI (WF wt))) (by decide +kernel) rfl rfl (Nat.le_of_ble_eq_true rfl) (fs' := moL ma (va_up (va_up (va_up iv 12 (nI vl)) 5 (nI wt)) 8 (nI (WF wt))) co) (ws' := [(h0, .inr (8, moL ma (va_up (va_up (va_up iv 12 (nI vl)) 5 (nI wt)) 8 (nI (WF wt))) co)), ((ma 7), .inl (k 0, 1200, .inl (fun i => nI (WK i)))), ((ma 8), .inl (k 0, 1200, .inl (fun i => nI (WF i)))), ((ma 9), .inl (k 0, 1200, .inl (fun i => nI (WA i)))), ((ma 10), .inl (k 0, 1200, .inl (fun i => nI (WB i)))), ((ma 11), .inl (k 0, 1200, .inl (fun i => nI (WN i)))), ((ma 12), .inl (k 0, 1400, .inl vr))]) rfl rfl d_Mo_giveOn_20 (fun H locs S => ?_)
  refine lv_aload_n hx hb d_Mo_giveOn_23 rfl (lv_at hl 0 rfl) ?_
  refine lv_aload_n hx hb d_Mo_giveOn_24 rfl (lv_at hl 0 rfl) ?_
  refine r_get C K S 0 rfl rfl clOk_Mo 16 (by decide) wf_Mo_47 (v := .ref (ma 10)) rfl d_Mo_giveOn_25 ?_
  refine lv_aload_n hx hb d_Mo_giveOn_28 rfl (lv_at hl 0 rfl) ?_
  refine r_get C K S 0 rfl rfl clOk_Mo 18 (by decide) wf_Mo_143 (v := .int (nI wt)) rfl d_Mo_giveOn_29 ?_
  refine r_iald C K S 4 rfl (i := nI wt) (show vp_in (nI wt) _ from vp_in_nI (n := wt) (by omega) (by decide)) (v := nI (WB wt)) (by rw [nI_clamp (by omega)]) d_Mo_giveOn_32 ?_
  refine r_put C K S 0 rfl rfl clOk_Mo 20 (by decide) wf_Mo_149 rfl (ty := .int) (v := .int (nI (WB wt))) (by decide +kernel) rfl rfl (Nat.le_of_ble_eq_true rfl) (fs' := moL ma (va_up (va_up (va_up (va_up iv 12 (nI vl)) 5 (nI wt)) 8 (nI (WF wt))) 6 (nI (WB wt))) co) (ws' := [(h0, .inr (8, moL ma (va_up (va_up (va_up (va_up iv 12 (nI vl)) 5 (nI wt)) 8 (nI (WF wt))) 6 (nI (WB wt))) co)), ((ma 7), .inl (k 0, 1200, .inl (fun i => nI (WK i)))), ((ma 8), .inl (k 0, 1200, .inl (fun i => nI (WF i)))), ((ma 9), .inl (k 0, 1200, .inl (fun i => nI (WA i)))), ((ma 10), .inl (k 0, 1200, .inl (fun i => nI (WB i)))), ((ma 11), .inl (k 0, 1200, .inl (fun i => nI (WN i)))), ((ma 12), .inl (k 0, 1400, .inl vr))]) rfl rfl d_Mo_giveOn_33 (fun H locs S => ?_)
  refine lv_aload_n hx hb d_Mo_giveOn_36 rfl (lv_at hl 0 rfl) ?_
  refine lv_aload_n hx hb d_Mo_giveOn_37 rfl (lv_at hl 0 rfl) ?_
  refine r_get C K S 0 rfl rfl clOk_Mo 17 (by decide) wf_Mo_50 (v := .ref (ma 11)) rfl d_Mo_giveOn_38 ?_
  refine lv_aload_n hx hb d_Mo_giveOn_41 rfl (lv_at hl 0 rfl) ?_
  refine r_get C K S 0 rfl rfl clOk_Mo 18 (by decide) wf_Mo_143 (v := .int (nI wt)) rfl d_Mo_giveOn_42 ?_
  refine r_iald C K S 5 rfl (i := nI wt) (show vp_in (nI wt) _ from vp_in_nI (n := wt) (by omega) (by decide)) (v := nI (WN wt)) (by rw [nI_clamp (by omega)]) d_Mo_giveOn_45 ?_
  refine r_put C K S 0 rfl rfl clOk_Mo 21 (by decide) wf_Mo_152 rfl (ty := .int) (v := .int (nI (WN wt))) (by decide +kernel) rfl rfl (Nat.le_of_ble_eq_true rfl) (fs' := moL ma (va_up (va_up (va_up (va_up (va_up iv 12 (nI vl)) 5 (nI wt)) 8 (nI (WF wt))) 6 (nI (WB wt))) 7 (nI (WN wt))) co) (ws' := [(h0, .inr (8, moL ma (va_up (va_up (va_up (va_up (va_up iv 12 (nI vl)) 5 (nI wt)) 8 (nI (WF wt))) 6 (nI (WB wt))) 7 (nI (WN wt))) co)), ((ma 7), .inl (k 0, 1200, .inl (fun i => nI (WK i)))), ((ma 8), .inl (k 0, 1200, .inl (fun i => nI (WF i)))), ((ma 9), .inl (k 0, 1200, .inl (fun i => nI (WA i)))), ((ma 10), .inl (k 0, 1200, .inl (fun i => nI (WB i)))), ((ma 11), .inl (k 0, 1200, .inl (fun i => nI (WN i)))), ((ma 12), .inl (k 0, 1400, .inl vr))]) rfl rfl d_Mo_giveOn_46 (fun H locs S => ?_)
  refine lv_aload_n hx hb d_Mo_giveOn_49 rfl (lv_at hl 0 rfl) ?_
  refine r_get C K S 0 rfl rfl clOk_Mo 13 (by decide) wf_Mo_38 (v := .ref (ma 7)) rfl d_Mo_giveOn_50 ?_
  refine lv_aload_n hx hb d_Mo_giveOn_53 rfl (lv_at hl 0 rfl) ?_
  refine r_get C K S 0 rfl rfl clOk_Mo 18 (by decide) wf_Mo_143 (v := .int (nI wt)) rfl d_Mo_giveOn_54 ?_
  refine r_iald C K S 1 rfl (i := nI wt) (show vp_in (nI wt) _ from vp_in_nI (n := wt) (by omega) (by decide)) (v := nI (WK wt)) (by rw [nI_clamp (by omega)]) d_Mo_giveOn_57 ?_
  rw [hk]
  refine z_if_ne (a := 1) (tgt := 93) hx hb d_Mo_giveOn_58 (by decide) (by omega) (fun hc1 => ?_) (fun hc1 => False.elim (by omega))
  refine lv_aload_n hx hb d_Mo_giveOn_93 rfl (lv_at hl 0 rfl) ?_
  refine r_get C K S 0 rfl rfl clOk_Mo 13 (by decide) wf_Mo_38 (v := .ref (ma 7)) rfl d_Mo_giveOn_94 ?_
  refine lv_aload_n hx hb d_Mo_giveOn_97 rfl (lv_at hl 0 rfl) ?_
  refine r_get C K S 0 rfl rfl clOk_Mo 18 (by decide) wf_Mo_143 (v := .int (nI wt)) rfl d_Mo_giveOn_98 ?_
  refine r_iald C K S 1 rfl (i := nI wt) (show vp_in (nI wt) _ from vp_in_nI (n := wt) (by omega) (by decide)) (v := nI (WK wt)) (by rw [nI_clamp (by omega)]) d_Mo_giveOn_101 ?_
  rw [hk]
  refine lv_iconst (v := 1) hx hb d_Mo_giveOn_102 (by decide) ?_
  refine z_icmp_ne (a := 1) (b := 1) (tgt := 155) hx hb d_Mo_giveOn_103 (by decide) (by omega) (by omega) (fun hc2 => False.elim (by omega)) (fun hc2 => ?_)
  refine lv_aload_n hx hb d_Mo_giveOn_106 rfl (lv_at hl 0 rfl) ?_
  refine r_get C K S 0 rfl rfl clOk_Mo 19 (by decide) wf_Mo_53 (v := .ref (ma 12)) rfl d_Mo_giveOn_107 ?_
  refine lv_aload_n hx hb d_Mo_giveOn_110 rfl (lv_at hl 0 rfl) ?_
  refine r_get C K S 0 rfl rfl clOk_Mo 20 (by decide) wf_Mo_149 (v := .int (nI (WB wt))) rfl d_Mo_giveOn_111 ?_
  refine lv_aload_n hx hb d_Mo_giveOn_114 rfl (lv_at hl 0 rfl) ?_
  refine r_get C K S 0 rfl rfl clOk_Mo 21 (by decide) wf_Mo_152 (v := .int (nI (WN wt))) rfl d_Mo_giveOn_115 ?_
  refine z_iadd (x := nI (WB wt)) (y := nI (WN wt)) (v := nI (WB wt + WN wt)) hx hb d_Mo_giveOn_118 (nI_add (WB wt) (WN wt)) ?_
  refine lv_aload_n hx hb d_Mo_giveOn_119 rfl (lv_at hl 0 rfl) ?_
  refine r_get C K S 0 rfl rfl clOk_Mo 26 (by decide) wf_Mo_168 (v := .int (nI vl)) rfl d_Mo_giveOn_120 ?_
  refine r_iast C K S 6 rfl (i := nI (WB wt + WN wt)) (x := nI vl) (show vp_in (nI (WB wt + WN wt)) _ from vp_in_nI (n := (WB wt + WN wt)) (by omega) (by decide)) (f' := va_up vr (WB wt + WN wt) (nI vl)) (ws' := [(h0, .inr (8, moL ma (va_up (va_up (va_up (va_up (va_up iv 12 (nI vl)) 5 (nI wt)) 8 (nI (WF wt))) 6 (nI (WB wt))) 7 (nI (WN wt))) co)), ((ma 7), .inl (k 0, 1200, .inl (fun i => nI (WK i)))), ((ma 8), .inl (k 0, 1200, .inl (fun i => nI (WF i)))), ((ma 9), .inl (k 0, 1200, .inl (fun i => nI (WA i)))), ((ma 10), .inl (k 0, 1200, .inl (fun i => nI (WB i)))), ((ma 11), .inl (k 0, 1200, .inl (fun i => nI (WN i)))), ((ma 12), .inl (k 0, 1400, .inl (va_up vr (WB wt + WN wt) (nI vl))))]) (show upd _ (nI (WB wt + WN wt) : Int32).toNatClampNeg (nI vl) = _ from upd_W vr (j := (WB wt + WN wt)) (by omega) (nI vl)) rfl d_Mo_giveOn_123 (fun H locs S => ?_)
  refine lv_aload_n hx hb d_Mo_giveOn_124 rfl (lv_at hl 0 rfl) ?_
  refine lv_dup hx hb d_Mo_giveOn_125 rfl ?_
  refine r_get C K S 0 rfl rfl clOk_Mo 21 (by decide) wf_Mo_152 (v := .int (nI (WN wt))) rfl d_Mo_giveOn_126 ?_
  refine lv_iconst (v := 1) hx hb d_Mo_giveOn_129 (by decide) ?_
  refine z_iadd (x := nI (WN wt)) (y := 1) (v := nI (WN wt + 1)) hx hb d_Mo_giveOn_130 (nI_add (WN wt) 1) ?_
  refine r_put C K S 0 rfl rfl clOk_Mo 21 (by decide) wf_Mo_152 rfl (ty := .int) (v := .int (nI (WN wt + 1))) (by decide +kernel) rfl rfl (Nat.le_of_ble_eq_true rfl) (fs' := moL ma (va_up (va_up (va_up (va_up (va_up iv 12 (nI vl)) 5 (nI wt)) 8 (nI (WF wt))) 6 (nI (WB wt))) 7 (nI (WN wt + 1))) co) (ws' := [(h0, .inr (8, moL ma (va_up (va_up (va_up (va_up (va_up iv 12 (nI vl)) 5 (nI wt)) 8 (nI (WF wt))) 6 (nI (WB wt))) 7 (nI (WN wt + 1))) co)), ((ma 7), .inl (k 0, 1200, .inl (fun i => nI (WK i)))), ((ma 8), .inl (k 0, 1200, .inl (fun i => nI (WF i)))), ((ma 9), .inl (k 0, 1200, .inl (fun i => nI (WA i)))), ((ma 10), .inl (k 0, 1200, .inl (fun i => nI (WB i)))), ((ma 11), .inl (k 0, 1200, .inl (fun i => nI (WN i)))), ((ma 12), .inl (k 0, 1400, .inl (va_up vr (WB wt + WN wt) (nI vl))))]) rfl rfl d_Mo_giveOn_131 (fun H locs S => ?_)
  refine lv_aload_n hx hb d_Mo_giveOn_134 rfl (lv_at hl 0 rfl) ?_
  refine lv_aload_n hx hb d_Mo_giveOn_135 rfl (lv_at hl 0 rfl) ?_
  refine r_get C K S 0 rfl rfl clOk_Mo 15 (by decide) wf_Mo_44 (v := .ref (ma 9)) rfl d_Mo_giveOn_136 ?_
  refine lv_aload_n hx hb d_Mo_giveOn_139 rfl (lv_at hl 0 rfl) ?_
  refine r_get C K S 0 rfl rfl clOk_Mo 18 (by decide) wf_Mo_143 (v := .int (nI wt)) rfl d_Mo_giveOn_140 ?_
  refine r_iald C K S 3 rfl (i := nI wt) (show vp_in (nI wt) _ from vp_in_nI (n := wt) (by omega) (by decide)) (v := nI (WA wt)) (by rw [nI_clamp (by omega)]) d_Mo_giveOn_143 ?_
  refine r_put C K S 0 rfl rfl clOk_Mo 23 (by decide) wf_Mo_162 rfl (ty := .int) (v := .int (nI (WA wt))) (by decide +kernel) rfl rfl (Nat.le_of_ble_eq_true rfl) (fs' := moL ma (va_up (va_up (va_up (va_up (va_up (va_up iv 12 (nI vl)) 5 (nI wt)) 8 (nI (WF wt))) 6 (nI (WB wt))) 7 (nI (WN wt + 1))) 9 (nI (WA wt))) co) (ws' := [(h0, .inr (8, moL ma (va_up (va_up (va_up (va_up (va_up (va_up iv 12 (nI vl)) 5 (nI wt)) 8 (nI (WF wt))) 6 (nI (WB wt))) 7 (nI (WN wt + 1))) 9 (nI (WA wt))) co)), ((ma 7), .inl (k 0, 1200, .inl (fun i => nI (WK i)))), ((ma 8), .inl (k 0, 1200, .inl (fun i => nI (WF i)))), ((ma 9), .inl (k 0, 1200, .inl (fun i => nI (WA i)))), ((ma 10), .inl (k 0, 1200, .inl (fun i => nI (WB i)))), ((ma 11), .inl (k 0, 1200, .inl (fun i => nI (WN i)))), ((ma 12), .inl (k 0, 1400, .inl (va_up vr (WB wt + WN wt) (nI vl))))]) rfl rfl d_Mo_giveOn_144 (fun H locs S => ?_)
  refine lv_aload_n hx hb d_Mo_giveOn_147 rfl (lv_at hl 0 rfl) ?_
  refine lv_iconst (v := (-1)) hx hb d_Mo_giveOn_148 (by decide) ?_
  refine r_put C K S 0 rfl rfl clOk_Mo 26 (by decide) wf_Mo_168 rfl (ty := .int) (v := .int (-1)) (by decide +kernel) rfl rfl (Nat.le_of_ble_eq_true rfl) (fs' := moL ma (va_up (va_up (va_up (va_up (va_up (va_up iv 5 (nI wt)) 8 (nI (WF wt))) 6 (nI (WB wt))) 7 (nI (WN wt + 1))) 9 (nI (WA wt))) 12 (-1)) co) (ws' := [(h0, .inr (8, moL ma (va_up (va_up (va_up (va_up (va_up (va_up iv 5 (nI wt)) 8 (nI (WF wt))) 6 (nI (WB wt))) 7 (nI (WN wt + 1))) 9 (nI (WA wt))) 12 (-1)) co)), ((ma 7), .inl (k 0, 1200, .inl (fun i => nI (WK i)))), ((ma 8), .inl (k 0, 1200, .inl (fun i => nI (WF i)))), ((ma 9), .inl (k 0, 1200, .inl (fun i => nI (WA i)))), ((ma 10), .inl (k 0, 1200, .inl (fun i => nI (WB i)))), ((ma 11), .inl (k 0, 1200, .inl (fun i => nI (WN i)))), ((ma 12), .inl (k 0, 1400, .inl (va_up vr (WB wt + WN wt) (nI vl))))]) rfl rfl d_Mo_giveOn_149 (fun H locs S => ?_)
  refine lv_goto (tgt := 165) hx hb d_Mo_giveOn_152 (by decide) ?_
  exact r_vret C K () trivial (S.sub [0, 1, 2, 3, 4, 5, 6] (by decide) rfl) d_Mo_giveOn_165 (Nat.le_of_ble_eq_true rfl) (Nat.le_of_ble_eq_true rfl)
set_option maxRecDepth 100000 in
set_option maxHeartbeats 16000000 in
/-- Mo_giveOn_2 -/
theorem g_Mo_giveOn_2 (l : Launch) (G : va_G) (k : Nat → ClassId) (h0 : Nat) (s0 : Nat) (wt : Nat) (vl : Nat) (cl : Nat) (ma : Nat → Nat) (iv : Nat → Int32) (co : Int64) (WK : Nat → Nat) (WF : Nat → Nat) (WA : Nat → Nat) (WB : Nat → Nat) (WN : Nat → Nat) (hwt : wt < 1200) (hvl : vl ≤ 30000) (hk : WK wt = 2) (hcl : 1 ≤ cl) : CV l y_Mo_giveOn c_Mo_giveOn 1 { frames := 0, cells := 0, slots := 0, locals := 0 } [.ref h0] G k s0 [(h0, .inr (8, moL ma (va_up (va_up (va_up iv 5 (nI (wt + 1))) 12 (nI vl)) 10 (nI cl)) co)), ((ma 7), .inl (k 0, 1200, .inl (fun i => nI (WK i)))), ((ma 8), .inl (k 0, 1200, .inl (fun i => nI (WF i)))), ((ma 9), .inl (k 0, 1200, .inl (fun i => nI (WA i)))), ((ma 10), .inl (k 0, 1200, .inl (fun i => nI (WB i)))), ((ma 11), .inl (k 0, 1200, .inl (fun i => nI (WN i))))] (fun (u : Unit) => True) (fun u => [(h0, .inr (8, moL ma (va_up (va_up (va_up (va_up (va_up (va_up iv 5 (nI wt)) 8 (nI (WF wt))) 6 (nI (WB wt))) 7 (nI (WN wt))) 10 (nI (cl - 1))) 12 (nI vl)) co)), ((ma 7), .inl (k 0, 1200, .inl (fun i => nI (WK i)))), ((ma 8), .inl (k 0, 1200, .inl (fun i => nI (WF i)))), ((ma 9), .inl (k 0, 1200, .inl (fun i => nI (WA i)))), ((ma 10), .inl (k 0, 1200, .inl (fun i => nI (WB i)))), ((ma 11), .inl (k 0, 1200, .inl (fun i => nI (WN i))))]) 0 0 := by
  refine met_start (by decide) (Nat.le_of_ble_eq_true rfl) ?_
  intro p e s m below meth c C K hA hsz S ls hl
  generalize va_A [(h0, .inr (8, moL ma (va_up (va_up (va_up iv 5 (nI (wt + 1))) 12 (nI vl)) 10 (nI cl)) co)), ((ma 7), .inl (k 0, 1200, .inl (fun i => nI (WK i)))), ((ma 8), .inl (k 0, 1200, .inl (fun i => nI (WF i)))), ((ma 9), .inl (k 0, 1200, .inl (fun i => nI (WA i)))), ((ma 10), .inl (k 0, 1200, .inl (fun i => nI (WB i)))), ((ma 11), .inl (k 0, 1200, .inl (fun i => nI (WN i))))] s0 = A at hA S ⊢
  have hx := C.1
  have hb := C.2.1
  have hl : lv_has ls 1 [(0, .ref h0)] := hl
  refine lv_aload_n hx hb d_Mo_giveOn_0 rfl (lv_at hl 0 rfl) ?_
  refine lv_dup hx hb d_Mo_giveOn_1 rfl ?_
  refine r_get C K S 0 rfl rfl clOk_Mo 18 (by decide) wf_Mo_143 (v := .int (nI (wt + 1))) rfl d_Mo_giveOn_2 ?_
  refine lv_iconst (v := 1) hx hb d_Mo_giveOn_5 (by decide) ?_
  refine z_isub (x := nI (wt + 1)) (y := 1) (v := nI (wt + 1 - 1)) hx hb d_Mo_giveOn_6 (pk_sub (a := (wt + 1)) (b := 1) (by omega)) ?_
  refine r_put C K S 0 rfl rfl clOk_Mo 18 (by decide) wf_Mo_143 rfl (ty := .int) (v := .int (nI (wt + 1 - 1))) (by decide +kernel) rfl rfl (Nat.le_of_ble_eq_true rfl) (fs' := moL ma (va_up (va_up (va_up iv 12 (nI vl)) 10 (nI cl)) 5 (nI (wt + 1 - 1))) co) (ws' := [(h0, .inr (8, moL ma (va_up (va_up (va_up iv 12 (nI vl)) 10 (nI cl)) 5 (nI (wt + 1 - 1))) co)), ((ma 7), .inl (k 0, 1200, .inl (fun i => nI (WK i)))), ((ma 8), .inl (k 0, 1200, .inl (fun i => nI (WF i)))), ((ma 9), .inl (k 0, 1200, .inl (fun i => nI (WA i)))), ((ma 10), .inl (k 0, 1200, .inl (fun i => nI (WB i)))), ((ma 11), .inl (k 0, 1200, .inl (fun i => nI (WN i))))]) rfl rfl d_Mo_giveOn_7 (fun H locs S => ?_)
  have S : Sw G A s.heap H locs [(h0, .inr (8, moL ma (va_up (va_up (va_up iv 12 (nI vl)) 10 (nI cl)) 5 (nI wt)) co)), ((ma 7), .inl (k 0, 1200, .inl (fun i => nI (WK i)))), ((ma 8), .inl (k 0, 1200, .inl (fun i => nI (WF i)))), ((ma 9), .inl (k 0, 1200, .inl (fun i => nI (WA i)))), ((ma 10), .inl (k 0, 1200, .inl (fun i => nI (WB i)))), ((ma 11), .inl (k 0, 1200, .inl (fun i => nI (WN i))))] := S
  refine lv_aload_n hx hb d_Mo_giveOn_10 rfl (lv_at hl 0 rfl) ?_
  refine lv_aload_n hx hb d_Mo_giveOn_11 rfl (lv_at hl 0 rfl) ?_
  refine r_get C K S 0 rfl rfl clOk_Mo 14 (by decide) wf_Mo_41 (v := .ref (ma 8)) rfl d_Mo_giveOn_12 ?_
  refine lv_aload_n hx hb d_Mo_giveOn_15 rfl (lv_at hl 0 rfl) ?_
  refine r_get C K S 0 rfl rfl clOk_Mo 18 (by decide) wf_Mo_143 (v := .int (nI wt)) rfl d_Mo_giveOn_16 ?_
  refine r_iald C K S 2 rfl (i := nI wt) (show vp_in (nI wt) _ from vp_in_nI (n := wt) (by omega) (by decide)) (v := nI (WF wt)) (by rw [nI_clamp (by omega)]) d_Mo_giveOn_19 ?_
  refine r_put C K S 0 rfl rfl clOk_Mo 22 (by decide) wf_Mo_146 rfl (ty := .int) (v := .int (nI (WF wt))) (by decide +kernel) rfl rfl (Nat.le_of_ble_eq_true rfl) (fs' := moL ma (va_up (va_up (va_up (va_up iv 12 (nI vl)) 10 (nI cl)) 5 (nI wt)) 8 (nI (WF wt))) co) (ws' := [(h0, .inr (8, moL ma (va_up (va_up (va_up (va_up iv 12 (nI vl)) 10 (nI cl)) 5 (nI wt)) 8 (nI (WF wt))) co)), ((ma 7), .inl (k 0, 1200, .inl (fun i => nI (WK i)))), ((ma 8), .inl (k 0, 1200, .inl (fun i => nI (WF i)))), ((ma 9), .inl (k 0, 1200, .inl (fun i => nI (WA i)))), ((ma 10), .inl (k 0, 1200, .inl (fun i => nI (WB i)))), ((ma 11), .inl (k 0, 1200, .inl (fun i => nI (WN i))))]) rfl rfl d_Mo_giveOn_20 (fun H locs S => ?_)
  refine lv_aload_n hx hb d_Mo_giveOn_23 rfl (lv_at hl 0 rfl) ?_
  refine lv_aload_n hx hb d_Mo_giveOn_24 rfl (lv_at hl 0 rfl) ?_
  refine r_get C K S 0 rfl rfl clOk_Mo 16 (by decide) wf_Mo_47 (v := .ref (ma 10)) rfl d_Mo_giveOn_25 ?_
  refine lv_aload_n hx hb d_Mo_giveOn_28 rfl (lv_at hl 0 rfl) ?_
  refine r_get C K S 0 rfl rfl clOk_Mo 18 (by decide) wf_Mo_143 (v := .int (nI wt)) rfl d_Mo_giveOn_29 ?_
  refine r_iald C K S 4 rfl (i := nI wt) (show vp_in (nI wt) _ from vp_in_nI (n := wt) (by omega) (by decide)) (v := nI (WB wt)) (by rw [nI_clamp (by omega)]) d_Mo_giveOn_32 ?_
  refine r_put C K S 0 rfl rfl clOk_Mo 20 (by decide) wf_Mo_149 rfl (ty := .int) (v := .int (nI (WB wt))) (by decide +kernel) rfl rfl (Nat.le_of_ble_eq_true rfl) (fs' := moL ma (va_up (va_up (va_up (va_up (va_up iv 12 (nI vl)) 10 (nI cl)) 5 (nI wt)) 8 (nI (WF wt))) 6 (nI (WB wt))) co) (ws' := [(h0, .inr (8, moL ma (va_up (va_up (va_up (va_up (va_up iv 12 (nI vl)) 10 (nI cl)) 5 (nI wt)) 8 (nI (WF wt))) 6 (nI (WB wt))) co)), ((ma 7), .inl (k 0, 1200, .inl (fun i => nI (WK i)))), ((ma 8), .inl (k 0, 1200, .inl (fun i => nI (WF i)))), ((ma 9), .inl (k 0, 1200, .inl (fun i => nI (WA i)))), ((ma 10), .inl (k 0, 1200, .inl (fun i => nI (WB i)))), ((ma 11), .inl (k 0, 1200, .inl (fun i => nI (WN i))))]) rfl rfl d_Mo_giveOn_33 (fun H locs S => ?_)
  refine lv_aload_n hx hb d_Mo_giveOn_36 rfl (lv_at hl 0 rfl) ?_
  refine lv_aload_n hx hb d_Mo_giveOn_37 rfl (lv_at hl 0 rfl) ?_
  refine r_get C K S 0 rfl rfl clOk_Mo 17 (by decide) wf_Mo_50 (v := .ref (ma 11)) rfl d_Mo_giveOn_38 ?_
  refine lv_aload_n hx hb d_Mo_giveOn_41 rfl (lv_at hl 0 rfl) ?_
  refine r_get C K S 0 rfl rfl clOk_Mo 18 (by decide) wf_Mo_143 (v := .int (nI wt)) rfl d_Mo_giveOn_42 ?_
  refine r_iald C K S 5 rfl (i := nI wt) (show vp_in (nI wt) _ from vp_in_nI (n := wt) (by omega) (by decide)) (v := nI (WN wt)) (by rw [nI_clamp (by omega)]) d_Mo_giveOn_45 ?_
  refine r_put C K S 0 rfl rfl clOk_Mo 21 (by decide) wf_Mo_152 rfl (ty := .int) (v := .int (nI (WN wt))) (by decide +kernel) rfl rfl (Nat.le_of_ble_eq_true rfl) (fs' := moL ma (va_up (va_up (va_up (va_up (va_up (va_up iv 12 (nI vl)) 10 (nI cl)) 5 (nI wt)) 8 (nI (WF wt))) 6 (nI (WB wt))) 7 (nI (WN wt))) co) (ws' := [(h0, .inr (8, moL ma (va_up (va_up (va_up (va_up (va_up (va_up iv 12 (nI vl)) 10 (nI cl)) 5 (nI wt)) 8 (nI (WF wt))) 6 (nI (WB wt))) 7 (nI (WN wt))) co)), ((ma 7), .inl (k 0, 1200, .inl (fun i => nI (WK i)))), ((ma 8), .inl (k 0, 1200, .inl (fun i => nI (WF i)))), ((ma 9), .inl (k 0, 1200, .inl (fun i => nI (WA i)))), ((ma 10), .inl (k 0, 1200, .inl (fun i => nI (WB i)))), ((ma 11), .inl (k 0, 1200, .inl (fun i => nI (WN i))))]) rfl rfl d_Mo_giveOn_46 (fun H locs S => ?_)
  refine lv_aload_n hx hb d_Mo_giveOn_49 rfl (lv_at hl 0 rfl) ?_
  refine r_get C K S 0 rfl rfl clOk_Mo 13 (by decide) wf_Mo_38 (v := .ref (ma 7)) rfl d_Mo_giveOn_50 ?_
  refine lv_aload_n hx hb d_Mo_giveOn_53 rfl (lv_at hl 0 rfl) ?_
  refine r_get C K S 0 rfl rfl clOk_Mo 18 (by decide) wf_Mo_143 (v := .int (nI wt)) rfl d_Mo_giveOn_54 ?_
  refine r_iald C K S 1 rfl (i := nI wt) (show vp_in (nI wt) _ from vp_in_nI (n := wt) (by omega) (by decide)) (v := nI (WK wt)) (by rw [nI_clamp (by omega)]) d_Mo_giveOn_57 ?_
  rw [hk]
  refine z_if_ne (a := 2) (tgt := 93) hx hb d_Mo_giveOn_58 (by decide) (by omega) (fun hc1 => ?_) (fun hc1 => False.elim (by omega))
  refine lv_aload_n hx hb d_Mo_giveOn_93 rfl (lv_at hl 0 rfl) ?_
  refine r_get C K S 0 rfl rfl clOk_Mo 13 (by decide) wf_Mo_38 (v := .ref (ma 7)) rfl d_Mo_giveOn_94 ?_
  refine lv_aload_n hx hb d_Mo_giveOn_97 rfl (lv_at hl 0 rfl) ?_
  refine r_get C K S 0 rfl rfl clOk_Mo 18 (by decide) wf_Mo_143 (v := .int (nI wt)) rfl d_Mo_giveOn_98 ?_
  refine r_iald C K S 1 rfl (i := nI wt) (show vp_in (nI wt) _ from vp_in_nI (n := wt) (by omega) (by decide)) (v := nI (WK wt)) (by rw [nI_clamp (by omega)]) d_Mo_giveOn_101 ?_
  rw [hk]
  refine lv_iconst (v := 1) hx hb d_Mo_giveOn_102 (by decide) ?_
  refine z_icmp_ne (a := 2) (b := 1) (tgt := 155) hx hb d_Mo_giveOn_103 (by decide) (by omega) (by omega) (fun hc2 => ?_) (fun hc2 => False.elim (by omega))
  refine lv_aload_n hx hb d_Mo_giveOn_155 rfl (lv_at hl 0 rfl) ?_
  refine lv_dup hx hb d_Mo_giveOn_156 rfl ?_
  refine r_get C K S 0 rfl rfl clOk_Mo 24 (by decide) wf_Mo_155 (v := .int (nI cl)) rfl d_Mo_giveOn_157 ?_
  refine lv_iconst (v := 1) hx hb d_Mo_giveOn_160 (by decide) ?_
  refine z_isub (x := nI cl) (y := 1) (v := nI (cl - 1)) hx hb d_Mo_giveOn_161 (pk_sub (a := cl) (b := 1) (by omega)) ?_
  refine r_put C K S 0 rfl rfl clOk_Mo 24 (by decide) wf_Mo_155 rfl (ty := .int) (v := .int (nI (cl - 1))) (by decide +kernel) rfl rfl (Nat.le_of_ble_eq_true rfl) (fs' := moL ma (va_up (va_up (va_up (va_up (va_up (va_up iv 12 (nI vl)) 5 (nI wt)) 8 (nI (WF wt))) 6 (nI (WB wt))) 7 (nI (WN wt))) 10 (nI (cl - 1))) co) (ws' := [(h0, .inr (8, moL ma (va_up (va_up (va_up (va_up (va_up (va_up iv 12 (nI vl)) 5 (nI wt)) 8 (nI (WF wt))) 6 (nI (WB wt))) 7 (nI (WN wt))) 10 (nI (cl - 1))) co)), ((ma 7), .inl (k 0, 1200, .inl (fun i => nI (WK i)))), ((ma 8), .inl (k 0, 1200, .inl (fun i => nI (WF i)))), ((ma 9), .inl (k 0, 1200, .inl (fun i => nI (WA i)))), ((ma 10), .inl (k 0, 1200, .inl (fun i => nI (WB i)))), ((ma 11), .inl (k 0, 1200, .inl (fun i => nI (WN i))))]) rfl rfl d_Mo_giveOn_162 (fun H locs S => ?_)
  exact r_vret C K () trivial (S.sub [0, 1, 2, 3, 4, 5] (by decide) rfl) d_Mo_giveOn_165 (Nat.le_of_ble_eq_true rfl) (Nat.le_of_ble_eq_true rfl)
