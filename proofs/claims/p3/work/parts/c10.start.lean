set_option maxRecDepth 100000 in
set_option maxHeartbeats 4000000 in
/-- what the tables say at the law's entry -/
theorem kn_start {s : State} {args : Array Value} (hts : ∀ w ∈ lw_tbl, w.before args s = true) : ∃ (G : va_G) (k : Nat → ClassId), Kn G k s := by
  have hg : ∀ w ∈ gt, w.before args s = true := fun w h => hts w (gt_law w h)
  obtain ⟨c0, i0, h0⟩ := u_known (C := R_PB) (T := T_PB) (N := 9) (n := 9) hg in_PB (hg _ wi_PB)
  obtain ⟨c1, i1, h1⟩ := u_known (C := R_So) (T := T_So) (N := 14) (n := 14) hg in_So (hg _ wi_So)
  obtain ⟨c2, i2, h2⟩ := u_known (C := R_Wh) (T := T_Wh) (N := 3) (n := 3) hg in_Wh (hg _ wi_Wh)
  obtain ⟨c3, i3, h3⟩ := u_known (C := R_Be) (T := T_Be) (N := 8) (n := 8) hg in_Be (hg _ wi_Be)
  obtain ⟨c4, i4, h4⟩ := u_known (C := R_Bo) (T := T_Bo) (N := 9) (n := 9) hg in_Bo (hg _ wi_Bo)
  obtain ⟨c5, i5, h5⟩ := u_known (C := R_Re) (T := T_Re) (N := 5) (n := 5) hg in_Re (hg _ wi_Re)
  obtain ⟨c6, i6, h6⟩ := u_known (C := R_Ru) (T := T_Ru) (N := 12) (n := 12) hg in_Ru (hg _ wi_Ru)
  obtain ⟨c7, i7, h7⟩ := u_known (C := R_Ne) (T := T_Ne) (N := 12) (n := 12) hg in_Ne (hg _ wi_Ne)
  obtain ⟨c8, i8, h8⟩ := u_known (C := R_Mo) (T := T_Mo) (N := 61) (n := 61) hg in_Mo (hg _ wi_Mo)
  obtain ⟨a0, ka0, x0, f0, e0, g0⟩ := Cond.arrayClass_spec (hg _ wa_int)
  obtain ⟨a1, ka1, x1, f1, e1, g1⟩ := Cond.arrayClass_spec (hg _ wa_long)
  obtain ⟨a2, ka2, x2, f2, e2, g2⟩ := Cond.arrayClass_spec (hg _ wa_boolean)
  have hB : va_AO "PotentialBench$Body" s := va_AO.of (hts _ (List.mem_append_right _ xa_Bo))
  have hW : va_AO "PotentialBench$Whole" s := va_AO.of (hts _ (List.mem_append_right _ xa_Wh))
  have hM : ao_I s := hts _ (List.mem_append_right _ xa_I)
  obtain ⟨x3, a3, ka3, p3, -, q3, r3, t3⟩ := Cond.arrayOver_spec hB
  obtain ⟨x4, a4, ka4, p4, -, q4, r4, t4⟩ := Cond.arrayOver_spec hW
  obtain ⟨x5, a5, ka5, p5, -, q5, r5, t5⟩ := arrayOverA_spec hM
  refine ⟨(fun j => match j with | 0 => c0 | 1 => c1 | 2 => c2 | 3 => c3 | 4 => c4 | 5 => c5 | 6 => c6 | 7 => c7 | _ => c8, fun j => match j with | 0 => i0 | 1 => i1 | 2 => i2 | 3 => i3 | 4 => i4 | 5 => i5 | 6 => i6 | 7 => i7 | _ => i8), fun j => match j with | 0 => a0 | 1 => a1 | 2 => a2 | 3 => a3 | 4 => a4 | _ => a5, ⟨?_, ?_⟩, fun w hw ho => va_Nw.of (nx_tab ho) (hts w (List.mem_append_right _ hw)), hB, hW, hM⟩
  · intro j q hq
    match j, hq with
    | 0, hq => cases hq; exact h0
    | 1, hq => cases hq; exact h1
    | 2, hq => cases hq; exact h2
    | 3, hq => cases hq; exact h3
    | 4, hq => cases hq; exact h4
    | 5, hq => cases hq; exact h5
    | 6, hq => cases hq; exact h6
    | 7, hq => cases hq; exact h7
    | 8, hq => cases hq; exact h8
    | j + 9, hq => simp [cls] at hq
  · intro j q hq
    match j, hq with
    | 0, hq => cases hq; exact ⟨fun n z => ⟨(fun k h => by cases h), ka0, e0, x0, g0⟩, f0⟩
    | 1, hq => cases hq; exact ⟨fun n z => ⟨(fun k h => by cases h), ka1, e1, x1, g1⟩, f1⟩
    | 2, hq => cases hq; exact ⟨fun n z => ⟨(fun k h => by cases h), ka2, e2, x2, g2⟩, f2⟩
    | 3, hq => cases hq; exact ⟨fun n z => ⟨(fun k h => by cases h), ka3, q3, x3, r3⟩, ka3, x3, q3, r3, p3, t3⟩
    | 4, hq => cases hq; exact ⟨fun n z => ⟨(fun k h => by cases h), ka4, q4, x4, r4⟩, ka4, x4, q4, r4, p4, t4⟩
    | 5, hq => cases hq; exact ⟨fun n z => ⟨(fun k h => by cases h), ka5, q5, x5, r5⟩, t5⟩
    | j + 6, hq => simp [tyl] at hq
theorem law_lt : ∀ L, L < 6 → Int32.ofNat L - 6 < 0 := by decide
theorem law_sub {L : Nat} (h : 6 ≤ L) : Int32.ofNat L - 6 = nI (L - 6) := by
  have e : nI (L - 6) + nI 6 = nI L := by rw [nI_add, Nat.sub_add_cancel h]
  show nI L - nI 6 = nI (L - 6)
  rw [← e, Int32.add_sub_cancel]
set_option maxRecDepth 100000 in
set_option maxHeartbeats 4000000 in
theorem law_exit {p : Program} {l : Launch} {e : Env} {s : State} {m : MethodId} {below : List Frame} {meth : Method} {c : Code} {G : va_G} {k : Nat → ClassId} {b L : Nat} {xs : Nat → Int32} {A : Nat → Prop} (C : Cx p s m #[Value.ref b] meth c code "PotentialBenchLaw" 4 ret meth.name) (K : Kn G k s) (hX : va_X b L xs s s.heap) (hbl : b < s.heap.size) (hA : ∀ q, s.heap.size ≤ q → A q) (hA2 : ∀ q, A q → s.heap.size ≤ q) {pb mo : Nat} {H : Heap} {locs : List Loc} {cells slots : Nat} {ws : va_W} (S : Sw G A s.heap H locs ws) (hc : cells ≤ 600000) (hs : slots ≤ 7302250) (ls : Array Slot) : W p l e room_1 s m #[Value.ref b] below meth c H locs cells slots (lw_Z below #[Value.ref b] s) (F0 m 475 ls []) := by
  have hx := C.1
  have hb := C.2.1
  have hbA : ¬ A b := fun h => absurd (hA2 b h) (Nat.not_le.mpr hbl)
  refine lv_iconst (v := 1) hx hb d_La_law_475 (by decide) ?_
  refine va_forget (fun q hq => hA2 _ (S.2.2.2.2 q hq)) ?_
  refine W.widen (k := 600000) (n := 7302250) hc hs ?_
  exact lw_ret hx hb C.2.2.2.2.2.1 C.2.2.2.2.2.2.1 d_La_law_476
set_option maxRecDepth 100000 in
set_option maxHeartbeats 4000000 in
theorem law_loop {p : Program} {l : Launch} {e : Env} {s : State} {m : MethodId} {below : List Frame} {meth : Method} {c : Code} {G : va_G} {k : Nat → ClassId} {b L : Nat} {xs : Nat → Int32} {A : Nat → Prop} (C : Cx p s m #[Value.ref b] meth c code "PotentialBenchLaw" 4 ret meth.name) (K : Kn G k s) (hX : va_X b L xs s s.heap) (hbl : b < s.heap.size) (hA : ∀ q, s.heap.size ≤ q → A q) (hA2 : ∀ q, A q → s.heap.size ≤ q) (hL : L ≤ 3072) {pb mo : Nat} : ∀ (d t : Nat), 512 - t = d → 6 * t ≤ L → ∀ (nf : Nat) (tk ct : Nat → Nat) (wd : Nat → Int32) (wp : Int32) (cz9 : Int64) (gv9 : Int32) (sp9 : Nat) (p9 : Nat) (W9 M9 : va_W) (H : Heap) (locs : List Loc) (cells slots : Nat) (ls : Array Slot), cwO k pb nf tk ct wd wp cz9 gv9 sp9 p9 W9 → rwO k mo nf tk ct wd wp cz9 gv9 sp9 M9 → cells + p9 ≤ 368979 → slots + 2 * p9 ≤ 1141464 → Sw G A s.heap H locs ([] ++ (W9 ++ M9)) → lv_has ls 4 [(3, .int (nI (6 * t))), (2, .ref mo), (1, .ref pb), (0, .ref b)] → W p l e room_1 s m #[Value.ref b] below meth c H locs cells slots (lw_Z below #[Value.ref b] s) (F0 m 18 ls []) := by
  have hx := C.1
  have hb := C.2.1
  have hbA : ¬ A b := fun h => absurd (hA2 b h) (Nat.not_le.mpr hbl)
  intro d
  induction d with
  | zero =>
    intro t hd hle nf tk ct wd wp cz9 gv9 sp9 p9 W9 M9 H locs cells slots ls hW hM hc hs S hl
    refine lv_iload_n hx hb d_La_law_18 rfl (lv_at hl 0 rfl) ?_
    refine lv_aload_n hx hb d_La_law_19 rfl (lv_at hl 3 rfl) ?_
    refine va_slen hx hb hX hbl hbA S.2.2 d_La_law_20 ?_
    refine lv_bipush (v := 6) hx hb d_La_law_21 (by decide) ?_
    refine z_isub (v := nI (L - 6)) hx hb d_La_law_23 (law_sub (by omega)) ?_
    refine z_icmp_gt (tgt := 475) hx hb d_La_law_24 (by decide) (by omega) (by omega) (fun _ => ?_) (fun hq => absurd hq (by omega))
    exact law_exit C K hX hbl hA hA2 (pb := pb) (mo := mo) S (by omega) (by omega) ls
  | succ d ih =>
    intro t hd hle nf tk ct wd wp cz9 gv9 sp9 p9 W9 M9 H locs cells slots ls hW hM hc hs S hl
    have next : 6 * t + 6 ≤ L → lwN p l e s m below meth c G k b A pb mo t := by
      intro ht nf tk ct wd wp cz9 gv9 sp9 p9 W9 M9 H locs cells slots ls hW hM hc hs S hl
      refine lv_iinc (v := nI (6 * (t + 1))) (lv' := [(3, .int (nI (6 * (t + 1)))), (2, .ref mo), (1, .ref pb), (0, .ref b)]) hx hb d_La_law_469 hl (k := 0) rfl (show nI (6 * t) + nI 6 = nI (6 * (t + 1)) from nI_add _ _) (by decide) rfl (fun ls hl => ?_)
      refine lv_goto (tgt := 18) hx hb d_La_law_472 (by decide) ?_
      exact ih (t + 1) (by omega) (by omega) nf tk ct wd wp cz9 gv9 sp9 p9 W9 M9 H locs cells slots ls hW hM hc hs S hl
    refine lv_iload_n hx hb d_La_law_18 rfl (lv_at hl 0 rfl) ?_
    refine lv_aload_n hx hb d_La_law_19 rfl (lv_at hl 3 rfl) ?_
    refine va_slen hx hb hX hbl hbA S.2.2 d_La_law_20 ?_
    refine lv_bipush (v := 6) hx hb d_La_law_21 (by decide) ?_
    rcases Nat.lt_or_ge L 6 with h6 | h6
    · obtain rfl : t = 0 := by omega
      refine lv_isub hx hb d_La_law_23 ?_
      refine lv_icmp_gt (tgt := 475) hx hb d_La_law_24 (by decide) (fun _ => ?_) (fun hq => absurd (law_lt L h6) hq)
      exact law_exit C K hX hbl hA hA2 (pb := pb) (mo := mo) S (by omega) (by omega) ls
    · refine z_isub (v := nI (L - 6)) hx hb d_La_law_23 (law_sub h6) ?_
      refine z_icmp_gt (tgt := 475) hx hb d_La_law_24 (by decide) (by omega) (by omega) (fun _ => ?_) (fun hq => ?_)
      · exact law_exit C K hX hbl hA hA2 (pb := pb) (mo := mo) S (by omega) (by omega) ls
      · have ht : 6 * t + 6 ≤ L := by omega
        have next := next ht
        refine lv_aload_n hx hb d_La_law_27 rfl (lv_at hl 3 rfl) ?_
        refine lv_iload_n hx hb d_La_law_28 rfl (lv_at hl 0 rfl) ?_
        refine va_sld hx hb hX hbl hbA S.2.2 (i := nI (6 * t)) (vp_in_nI (by omega) (by omega)) d_La_law_29 ?_
        refine lv_bipush (v := 15) hx hb d_La_law_30 (by decide) ?_
        refine lv_iand hx hb d_La_law_32 ?_
        obtain ⟨j, hj, ej⟩ := pk_andE (xs (nI (6 * t)).toNatClampNeg) (m := 15) 4 (by decide)
        rw [ej]
        have hj : j < 16 := hj
        rcases (show j = 0 ∨ j = 1 ∨ j = 2 ∨ j = 3 ∨ j = 4 ∨ j = 5 ∨ j = 6 ∨ j = 7 ∨ j = 8 ∨ j = 9 ∨ j = 10 ∨ j = 11 ∨ j = 12 ∨ j = 13 ∨ j = 14 ∨ j = 15 by omega) with rfl | rfl | rfl | rfl | rfl | rfl | rfl | rfl | rfl | rfl | rfl | rfl | rfl | rfl | rfl | rfl
        · refine lv_tableIn (tgt := 100) (off := 67) hx hb d_La_law_33 (by decide) (by decide) (by decide) (by decide) ?_
          exact law_c0 C K hX hbl hA hA2 hW hM hc hs S hL ht ls hl next
        · refine lv_tableIn (tgt := 123) (off := 90) hx hb d_La_law_33 (by decide) (by decide) (by decide) (by decide) ?_
          exact law_c1 C K hX hbl hA hA2 hW hM hc hs S hL ht ls hl next
        · refine lv_tableIn (tgt := 156) (off := 123) hx hb d_La_law_33 (by decide) (by decide) (by decide) (by decide) ?_
          exact law_c2 C K hX hbl hA hA2 hW hM hc hs S hL ht ls hl next
        · refine lv_tableIn (tgt := 189) (off := 156) hx hb d_La_law_33 (by decide) (by decide) (by decide) (by decide) ?_
          exact law_c3 C K hX hbl hA hA2 hW hM hc hs S hL ht ls hl next
        · refine lv_tableIn (tgt := 202) (off := 169) hx hb d_La_law_33 (by decide) (by decide) (by decide) (by decide) ?_
          exact law_c4 C K hX hbl hA hA2 hW hM hc hs S hL ht ls hl next
        · refine lv_tableIn (tgt := 215) (off := 182) hx hb d_La_law_33 (by decide) (by decide) (by decide) (by decide) ?_
          exact law_c5 C K hX hbl hA hA2 hW hM hc hs S hL ht ls hl next
        · refine lv_tableIn (tgt := 268) (off := 235) hx hb d_La_law_33 (by decide) (by decide) (by decide) (by decide) ?_
          exact law_c6 C K hX hbl hA hA2 hW hM hc hs S hL ht ls hl next
        · refine lv_tableIn (tgt := 281) (off := 248) hx hb d_La_law_33 (by decide) (by decide) (by decide) (by decide) ?_
          exact law_c7 C K hX hbl hA hA2 hW hM hc hs S hL ht ls hl next
        · refine lv_tableIn (tgt := 294) (off := 261) hx hb d_La_law_33 (by decide) (by decide) (by decide) (by decide) ?_
          exact law_c8 C K hX hbl hA hA2 hW hM hc hs S hL ht ls hl next
        · refine lv_tableIn (tgt := 307) (off := 274) hx hb d_La_law_33 (by decide) (by decide) (by decide) (by decide) ?_
          exact law_c9 C K hX hbl hA hA2 hW hM hc hs S hL ht ls hl next
        · refine lv_tableIn (tgt := 330) (off := 297) hx hb d_La_law_33 (by decide) (by decide) (by decide) (by decide) ?_
          exact law_c10 C K hX hbl hA hA2 hW hM hc hs S hL ht ls hl next
        · refine lv_tableIn (tgt := 353) (off := 320) hx hb d_La_law_33 (by decide) (by decide) (by decide) (by decide) ?_
          exact law_c11 C K hX hbl hA hA2 hW hM hc hs S hL ht ls hl next
        · refine lv_tableIn (tgt := 386) (off := 353) hx hb d_La_law_33 (by decide) (by decide) (by decide) (by decide) ?_
          exact law_c12 C K hX hbl hA hA2 hW hM hc hs S hL ht ls hl next
        · refine lv_tableOut (tgt := 469) hx hb d_La_law_33 (Or.inr (by decide)) (by decide) ?_
          exact next _ _ _ _ _ _ _ _ _ _ _ _ _ _ _ ls hW hM hc hs S hl
        · refine lv_tableOut (tgt := 469) hx hb d_La_law_33 (Or.inr (by decide)) (by decide) ?_
          exact next _ _ _ _ _ _ _ _ _ _ _ _ _ _ _ ls hW hM hc hs S hl
        · refine lv_tableOut (tgt := 469) hx hb d_La_law_33 (Or.inr (by decide)) (by decide) ?_
          exact next _ _ _ _ _ _ _ _ _ _ _ _ _ _ _ ls hW hM hc hs S hl
theorem sw_perm {G : va_G} {A : Nat → Prop} {H0 H : Heap} {locs : List Loc} {ws ws2 : va_W} (h : ws.Perm ws2) (S : Sw G A H0 H locs ws) : Sw G A H0 H locs ws2 := ⟨vaP_perm h S.1, vaD_perm h S.2.1, S.2.2⟩
set_option maxRecDepth 100000 in
set_option maxHeartbeats 4000000 in
/-- THE LAW, from its entry -/
theorem whole_start {p : Program} {e : Env} {s : State} {m : MethodId} {below : List Frame} {meth : Method} {c : Code} (l : Launch) {b L : Nat} {xs : Nat → Int32} (hL : L ≤ 3072) (C0 : lw_At p s m meth c b L xs) : W p l e room_1 s m #[Value.ref b] below meth c s.heap [] 0 0 (lw_Z below #[Value.ref b] s) (entryFrame m ([Value.ref b] : List Value).toArray 4) := by
  obtain ⟨hx, hb, hr, hml, hown, hts, hX, hbl, hlocks, hgv⟩ := id C0
  obtain ⟨G, k, K⟩ := kn_start hts
  have C : Cx p s m #[Value.ref b] meth c code "PotentialBenchLaw" 4 ret meth.name := ⟨hx, hb, hml, hown, fun w h => hts w (gt_law w h), hr, hlocks, rfl⟩
  obtain ⟨A, hA, hA2⟩ : ∃ A : Nat → Prop, (∀ q, s.heap.size ≤ q → A q) ∧ ∀ q, A q → s.heap.size ≤ q := ⟨fun q => s.heap.size ≤ q, fun _ h => h, fun _ h => h⟩
  have hbA : ¬ A b := fun h => absurd (hA2 b h) (Nat.not_le.mpr hbl)
  have S : Sw G A s.heap s.heap [] [] := ⟨fun k q h => by simp at h, ⟨fun i j p q h => by simp at h, fun k q h => by simp at h⟩, va_S.rf⟩
  have hl := lv_entry ([.ref b]) (n := 4) (Nat.le_of_ble_eq_true rfl)
  rw [lg_entry_eq]
  generalize (lg_sl ([.ref b]) ++ List.replicate (4 - (lg_sl ([.ref b])).length) Slot.unset).toArray = ls at hl ⊢
  have hl : lv_has ls 4 [(0, .ref b)] := hl
  refine r_new C K S hA 0 rfl clOk_PB wl_La_7 wi_PB wz_PB t_PB k_PB (fs := [.null, .null, .null, .null, .null, .null, .int 0, .int 0, .int 0]) df_PB (Nat.le_of_ble_eq_true rfl) (Nat.le_of_ble_eq_true rfl) d_La_law_0 (fun q1 H S => ?_)
  have S : Sw G A s.heap _ _ [(q1, .inr (0, [.null, .null, .null, .null, .null, .null, .int 0, .int 0, .int 0]))] := S
  refine lv_dup hx hb d_La_law_3 rfl ?_
  refine q_back0 (wi := [(q1, .inr (0, [.null, .null, .null, .null, .null, .null, .int 0, .int 0, .int 0]))]) (wr := []) S hA [0] [] rfl rfl (by decide) (by decide) (va_runI (As := []) (rest := [.ref q1]) ⟨hx, hb, C.2.2.1, C.2.2.2.1, C.2.2.2.2.1⟩ (w_PB_init l G k q1 _ _) (k_ctor (n := 0) C wc_PB_init rfl rfl wz_PB wm_La_9 wn_PB_init rfl (by decide +kernel) ⟨(Nat.le_of_ble_eq_true rfl), (Nat.le_of_ble_eq_true rfl)⟩) (pr_nowG K S [0] (by decide) rfl) rfl rfl hl.1 rfl (lv_room (Nat.le_of_ble_eq_true rfl)) d_La_law_4 ⟨(Nat.le_of_ble_eq_true rfl), (Nat.le_of_ble_eq_true rfl)⟩) (fun u1 H locs hw1 S => ?_)
  obtain ⟨hW, hp⟩ := hw1
  have S : Sw G A s.heap H locs u1.1 := S
  show W p l e _ s m _ below meth c H locs _ _ _ (F0 m 7 ls [.ref q1])
  refine lv_astore_n (lv' := [(1, .ref q1), (0, .ref b)]) hx hb d_La_law_7 rfl hl (by decide) rfl (fun ls hl => ?_)
  refine r_new C K S hA 8 rfl clOk_Mo wl_La_10 wi_Mo wz_Mo t_Mo k_Mo (fs := [.int 0, .null, .null, .null, .int 0, .null, .null, .null, .null, .int 0, .long 0, .int 0, .int 0, .null, .null, .null, .null, .null, .int 0, .null, .int 0, .int 0, .int 0, .int 0, .int 0, .int 0, .int 0, .null, .int 0, .int 0, .int 0, .int 0, .null, .null, .int 0, .null, .null, .null, .null, .null, .int 0, .null, .null, .null, .null, .null, .null, .null, .int 0, .int 0, .int 0, .int 0, .int 0, .int 0, .int 0, .null, .null, .int 0, .int 0, .int 0, .int 0]) df_Mo (Nat.le_of_ble_eq_true rfl) (Nat.le_of_ble_eq_true rfl) d_La_law_8 (fun q2 H S => ?_)
  have S : Sw G A s.heap H locs ([(q2, .inr (8, [.int 0, .null, .null, .null, .int 0, .null, .null, .null, .null, .int 0, .long 0, .int 0, .int 0, .null, .null, .null, .null, .null, .int 0, .null, .int 0, .int 0, .int 0, .int 0, .int 0, .int 0, .int 0, .null, .int 0, .int 0, .int 0, .int 0, .null, .null, .int 0, .null, .null, .null, .null, .null, .int 0, .null, .null, .null, .null, .null, .null, .null, .int 0, .int 0, .int 0, .int 0, .int 0, .int 0, .int 0, .null, .null, .int 0, .int 0, .int 0, .int 0]))] ++ u1.1) := sw_perm List.perm_append_comm S
  refine lv_dup hx hb d_La_law_11 rfl ?_
  refine q_backP (X := [(q2, .inr (8, [.int 0, .null, .null, .null, .int 0, .null, .null, .null, .null, .int 0, .long 0, .int 0, .int 0, .null, .null, .null, .null, .null, .int 0, .null, .int 0, .int 0, .int 0, .int 0, .int 0, .int 0, .int 0, .null, .int 0, .int 0, .int 0, .int 0, .null, .null, .int 0, .null, .null, .null, .null, .null, .int 0, .null, .null, .null, .null, .null, .null, .null, .int 0, .int 0, .int 0, .int 0, .int 0, .int 0, .int 0, .null, .null, .int 0, .int 0, .int 0, .int 0]))]) (wi := [(q2, .inr (8, [.int 0, .null, .null, .null, .int 0, .null, .null, .null, .null, .int 0, .long 0, .int 0, .int 0, .null, .null, .null, .null, .null, .int 0, .null, .int 0, .int 0, .int 0, .int 0, .int 0, .int 0, .int 0, .null, .int 0, .int 0, .int 0, .int 0, .null, .null, .int 0, .null, .null, .null, .null, .null, .int 0, .null, .null, .null, .null, .null, .null, .null, .int 0, .int 0, .int 0, .int 0, .int 0, .int 0, .int 0, .null, .null, .int 0, .int 0, .int 0, .int 0]))]) (wr := []) (pl := u1.1) (wo := fun u => u) (pl1 := fun _ => u1.1) S hA [0] [] rfl rfl (by decide) (by decide) (va_runI (As := []) (rest := [.ref q2]) ⟨hx, hb, C.2.2.1, C.2.2.2.1, C.2.2.2.2.1⟩ (cg_frame u1.1 (v_Mo_init l G k q2 _ _)) (k_ctor (n := 0) C wc_Mo_init rfl rfl wz_Mo wm_La_12 wn_Mo_init rfl (by decide +kernel) ⟨(Nat.le_of_ble_eq_true rfl), (Nat.le_of_ble_eq_true rfl)⟩) (pr_nowGP K S [0] (by decide) rfl) rfl rfl hl.1 rfl (lv_room (Nat.le_of_ble_eq_true rfl)) d_La_law_12 ⟨(Nat.le_of_ble_eq_true rfl), (Nat.le_of_ble_eq_true rfl)⟩) (fun u2 H locs hM S => ?_)
  have S : Sw G A s.heap H locs (u2 ++ u1.1) := S
  have S : Sw G A s.heap H locs (u1.1 ++ u2) := sw_perm List.perm_append_comm S
  have S : Sw G A s.heap H locs ([] ++ (u1.1 ++ u2)) := S
  show W p l e _ s m _ below meth c H locs _ _ _ (F0 m 15 ls [.ref q2])
  refine lv_astore_n (lv' := [(2, .ref q2), (1, .ref q1), (0, .ref b)]) hx hb d_La_law_15 rfl hl (by decide) rfl (fun ls hl => ?_)
  refine lv_iconst (v := 0) hx hb d_La_law_16 (by decide) ?_
  refine lv_istore_n (lv' := [(3, .int 0), (2, .ref q2), (1, .ref q1), (0, .ref b)]) hx hb d_La_law_17 rfl hl (by decide) rfl (fun ls hl => ?_)
  exact law_loop C K hX hbl hA hA2 hL (pb := q1) (mo := q2) 512 0 rfl (by omega) _ _ _ _ _ _ _ _ _ _ _ _ _ _ _ ls hW hM (by show 0 + 1 + 509 + 1 + 30 + u1.2 ≤ 368979; omega) (by show 0 + 9 + 26027 + 61 + 378491 + 2 * u1.2 ≤ 1141464; omega) S hl
