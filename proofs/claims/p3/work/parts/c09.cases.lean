/-- behind the two calls: the next six -/
def lwN (p : Program) (l : Launch) (e : Env) (s : State) (m : MethodId) (below : List Frame) (meth : Method) (c : Code) (G : va_G) (k : Nat → ClassId) (b : Nat) (A : Nat → Prop) (pb mo t : Nat) : Prop :=
  ∀ (nf : Nat) (tk ct : Nat → Nat) (wd : Nat → Int32) (wp : Int32) (cz9 : Int64) (gv9 : Int32) (sp9 : Nat) (p9 : Nat) (W9 M9 : va_W) (H : Heap) (locs : List Loc) (cells slots : Nat) (ls : Array Slot), cwO k pb nf tk ct wd wp cz9 gv9 sp9 p9 W9 → rwO k mo nf tk ct wd wp cz9 gv9 sp9 M9 → cells + p9 ≤ 368979 → slots + 2 * p9 ≤ 1141464 → Sw G A s.heap H locs ([] ++ (W9 ++ M9)) → lv_has ls 4 [(3, .int (nI (6 * t))), (2, .ref mo), (1, .ref pb), (0, .ref b)] → W p l e room_1 s m #[Value.ref b] below meth c H locs cells slots (lw_Z below #[Value.ref b] s) (F0 m 469 ls [])
set_option maxRecDepth 100000 in
set_option maxHeartbeats 4000000 in
theorem law_c0 {p : Program} {l : Launch} {e : Env} {s : State} {m : MethodId} {below : List Frame} {meth : Method} {c : Code} {G : va_G} {k : Nat → ClassId} {b L : Nat} {xs : Nat → Int32} {A : Nat → Prop} (C : Cx p s m #[Value.ref b] meth c code "PotentialBenchLaw" 4 ret meth.name) (K : Kn G k s) (hX : va_X b L xs s s.heap) (hbl : b < s.heap.size) (hA : ∀ q, s.heap.size ≤ q → A q) (hA2 : ∀ q, A q → s.heap.size ≤ q) {pb mo nf : Nat} {tk ct : Nat → Nat} {wd : Nat → Int32} {wp : Int32} {cz9 : Int64} {gv9 : Int32} {sp9 : Nat} {p9 : Nat} {W9 M9 : va_W} {H : Heap} {locs : List Loc} {cells slots : Nat} (hW : cwO k pb nf tk ct wd wp cz9 gv9 sp9 p9 W9) (hM : rwO k mo nf tk ct wd wp cz9 gv9 sp9 M9) (hc : cells + p9 ≤ 368979) (hs : slots + 2 * p9 ≤ 1141464) (S : Sw G A s.heap H locs ([] ++ (W9 ++ M9))) (hL : L ≤ 3072) {t : Nat} (ht : 6 * t + 6 ≤ L) (ls : Array Slot) (hl : lv_has ls 4 [(3, .int (nI (6 * t))), (2, .ref mo), (1, .ref pb), (0, .ref b)]) (next : lwN p l e s m below meth c G k b A pb mo t) : W p l e room_1 s m #[Value.ref b] below meth c H locs cells slots (lw_Z below #[Value.ref b] s) (F0 m 100 ls []) := by
  have hx := C.1
  have hb := C.2.1
  have hbA : ¬ A b := fun h => absurd (hA2 b h) (Nat.not_le.mpr hbl)
  refine lv_aload_n hx hb d_La_law_100 rfl (lv_at hl 2 rfl) ?_
  refine lv_aload_n hx hb d_La_law_101 rfl (lv_at hl 3 rfl) ?_
  refine lv_iload_n hx hb d_La_law_102 rfl (lv_at hl 0 rfl) ?_
  refine lv_iconst (v := 1) hx hb d_La_law_103 (by decide) ?_
  refine z_iadd (v := nI (6 * t + 1)) hx hb d_La_law_104 (nI_add (6 * t) 1) ?_
  refine va_sld hx hb hX hbl hbA S.2.2 (i := nI (6 * t + 1)) (vp_in_nI (by omega) (by omega)) d_La_law_105 ?_
  obtain ⟨nf2, tk2, ct2, wd2, wp2, cz2, gv2, sp2, r2, hC, hR⟩ := b_function (l := l) (G := G) hW hM (xs (nI (6 * t + 1)).toNatClampNeg)
  obtain ⟨fs1, he1⟩ := cw_mem hW M9
  obtain ⟨rm1, hr1, hr2, hr3, hr4, hC⟩ := hC H.size (allSl H)
  refine q_backP (X := []) (wi := []) (wr := []) (pl := W9 ++ M9) (wo := fun _ => []) (pl1 := fun (u : va_W × Nat × Int32) => u.1 ++ M9) S hA [] [] rfl rfl (by decide) (by decide) (va_runV (As := [.int (xs (nI (6 * t + 1)).toNatClampNeg)]) (rest := []) ⟨hx, hb, C.2.2.1, C.2.2.2.1, C.2.2.2.2.1⟩ (cg_as (wi := []) M9 hC) (k_virt (n := 1) C wc_PB_function rfl rfl wz_PB wm_La_13 wn_PB_function ws_PB_function (by decide +kernel) ⟨(show rm1.frames + 1 ≤ 2048 by omega), (show 8 + (_ + 11) + rm1.locals ≤ 84000 by omega)⟩) (pr_nowVGP K S [] (by decide) rfl he1 rfl) rfl rfl hl.1 rfl (lv_room (Nat.le_of_ble_eq_true rfl)) d_La_law_106 ⟨(show cells + rm1.cells ≤ 600000 by omega), (show slots + rm1.slots ≤ 7302250 by omega)⟩) (fun u1 H locs hw1 S => ?_)
  obtain ⟨hW1, hp1, hrP⟩ := hw1
  have S : Sw G A s.heap H locs ([] ++ (u1.1 ++ M9)) := S
  show W p l e _ s m _ below meth c H locs _ _ _ (F0 m 109 ls [.int u1.2.2])
  refine lv_pop hx hb d_La_law_109 rfl ?_
  refine lv_aload_n hx hb d_La_law_110 rfl (lv_at hl 1 rfl) ?_
  refine lv_aload_n hx hb d_La_law_111 rfl (lv_at hl 3 rfl) ?_
  refine lv_iload_n hx hb d_La_law_112 rfl (lv_at hl 0 rfl) ?_
  refine lv_iconst (v := 1) hx hb d_La_law_113 (by decide) ?_
  refine z_iadd (v := nI (6 * t + 1)) hx hb d_La_law_114 (nI_add (6 * t) 1) ?_
  refine va_sld hx hb hX hbl hbA S.2.2 (i := nI (6 * t + 1)) (vp_in_nI (by omega) (by omega)) d_La_law_115 ?_
  obtain ⟨fs2, he2⟩ := rw_mem hM u1.1
  obtain ⟨rm2, hg1, hg2, hg3, hg4, hR⟩ := hR H.size (allSl H)
  refine q_backP (X := []) (wi := []) (wr := []) (pl := u1.1 ++ M9) (wo := fun _ => []) (pl1 := fun (u : va_W × Int32) => u1.1 ++ u.1) S hA [] [] rfl rfl (by decide) (by decide) (va_runV (As := [.int (xs (nI (6 * t + 1)).toNatClampNeg)]) (rest := []) ⟨hx, hb, C.2.2.1, C.2.2.2.1, C.2.2.2.2.1⟩ (cg_sa (wi := []) u1.1 hR) (k_virt (n := 1) C wc_Mo_function hg3 hg4 wz_Mo wm_La_17 wn_Mo_function ws_Mo_function (by decide +kernel) ⟨(show rm2.frames + 1 ≤ 2048 by omega), (show 8 + (_ + 11) + rm2.locals ≤ 84000 by omega)⟩) (pr_nowVGP K S [] (by decide) rfl he2 rfl) rfl rfl hl.1 rfl (lv_room (Nat.le_of_ble_eq_true rfl)) d_La_law_116 ⟨(show cells + (p9 - u1.2.1) + 0 ≤ 600000 by omega), (show slots + 2 * (p9 - u1.2.1) + 0 ≤ 7302250 by omega)⟩) (fun u2 H locs hw2 S => ?_)
  obtain ⟨hM1, hrM⟩ := hw2
  have S : Sw G A s.heap H locs ([] ++ (u1.1 ++ u2.1)) := S
  show W p l e _ s m _ below meth c H locs _ _ _ (F0 m 119 ls [.int u2.2])
  refine lv_pop hx hb d_La_law_119 rfl ?_
  refine lv_goto (tgt := 469) hx hb d_La_law_120 (by decide) ?_
  exact next _ _ _ _ _ _ _ _ _ _ _ _ _ _ _ ls hW1 hM1 (by show cells + (p9 - u1.2.1) + 0 + u1.2.1 ≤ 368979; omega) (by show slots + 2 * (p9 - u1.2.1) + 0 + 2 * u1.2.1 ≤ 1141464; omega) S hl
set_option maxRecDepth 100000 in
set_option maxHeartbeats 4000000 in
theorem law_c1 {p : Program} {l : Launch} {e : Env} {s : State} {m : MethodId} {below : List Frame} {meth : Method} {c : Code} {G : va_G} {k : Nat → ClassId} {b L : Nat} {xs : Nat → Int32} {A : Nat → Prop} (C : Cx p s m #[Value.ref b] meth c code "PotentialBenchLaw" 4 ret meth.name) (K : Kn G k s) (hX : va_X b L xs s s.heap) (hbl : b < s.heap.size) (hA : ∀ q, s.heap.size ≤ q → A q) (hA2 : ∀ q, A q → s.heap.size ≤ q) {pb mo nf : Nat} {tk ct : Nat → Nat} {wd : Nat → Int32} {wp : Int32} {cz9 : Int64} {gv9 : Int32} {sp9 : Nat} {p9 : Nat} {W9 M9 : va_W} {H : Heap} {locs : List Loc} {cells slots : Nat} (hW : cwO k pb nf tk ct wd wp cz9 gv9 sp9 p9 W9) (hM : rwO k mo nf tk ct wd wp cz9 gv9 sp9 M9) (hc : cells + p9 ≤ 368979) (hs : slots + 2 * p9 ≤ 1141464) (S : Sw G A s.heap H locs ([] ++ (W9 ++ M9))) (hL : L ≤ 3072) {t : Nat} (ht : 6 * t + 6 ≤ L) (ls : Array Slot) (hl : lv_has ls 4 [(3, .int (nI (6 * t))), (2, .ref mo), (1, .ref pb), (0, .ref b)]) (next : lwN p l e s m below meth c G k b A pb mo t) : W p l e room_1 s m #[Value.ref b] below meth c H locs cells slots (lw_Z below #[Value.ref b] s) (F0 m 123 ls []) := by
  have hx := C.1
  have hb := C.2.1
  have hbA : ¬ A b := fun h => absurd (hA2 b h) (Nat.not_le.mpr hbl)
  refine lv_aload_n hx hb d_La_law_123 rfl (lv_at hl 2 rfl) ?_
  refine lv_aload_n hx hb d_La_law_124 rfl (lv_at hl 3 rfl) ?_
  refine lv_iload_n hx hb d_La_law_125 rfl (lv_at hl 0 rfl) ?_
  refine lv_iconst (v := 1) hx hb d_La_law_126 (by decide) ?_
  refine z_iadd (v := nI (6 * t + 1)) hx hb d_La_law_127 (nI_add (6 * t) 1) ?_
  refine va_sld hx hb hX hbl hbA S.2.2 (i := nI (6 * t + 1)) (vp_in_nI (by omega) (by omega)) d_La_law_128 ?_
  refine lv_aload_n hx hb d_La_law_129 rfl (lv_at hl 3 rfl) ?_
  refine lv_iload_n hx hb d_La_law_130 rfl (lv_at hl 0 rfl) ?_
  refine lv_iconst (v := 2) hx hb d_La_law_131 (by decide) ?_
  refine z_iadd (v := nI (6 * t + 2)) hx hb d_La_law_132 (nI_add (6 * t) 2) ?_
  refine va_sld hx hb hX hbl hbA S.2.2 (i := nI (6 * t + 2)) (vp_in_nI (by omega) (by omega)) d_La_law_133 ?_
  obtain ⟨nf2, tk2, ct2, wd2, wp2, cz2, gv2, sp2, r2, hC, hR⟩ := b_word (l := l) (G := G) hW hM (xs (nI (6 * t + 1)).toNatClampNeg) (xs (nI (6 * t + 2)).toNatClampNeg)
  obtain ⟨fs1, he1⟩ := cw_mem hW M9
  obtain ⟨rm1, hr1, hr2, hr3, hr4, hC⟩ := hC H.size (allSl H)
  refine q_backP (X := []) (wi := []) (wr := []) (pl := W9 ++ M9) (wo := fun _ => []) (pl1 := fun (u : va_W × Nat × Int32) => u.1 ++ M9) S hA [] [] rfl rfl (by decide) (by decide) (va_runV (As := [.int (xs (nI (6 * t + 1)).toNatClampNeg), .int (xs (nI (6 * t + 2)).toNatClampNeg)]) (rest := []) ⟨hx, hb, C.2.2.1, C.2.2.2.1, C.2.2.2.2.1⟩ (cg_as (wi := []) M9 hC) (k_virt (n := 2) C wc_PB_word rfl rfl wz_PB wm_La_18 wn_PB_word ws_PB_word (by decide +kernel) ⟨(show rm1.frames + 1 ≤ 2048 by omega), (show 8 + (_ + 11) + rm1.locals ≤ 84000 by omega)⟩) (pr_nowVGP K S [] (by decide) rfl he1 rfl) rfl rfl hl.1 rfl (lv_room (Nat.le_of_ble_eq_true rfl)) d_La_law_134 ⟨(show cells + rm1.cells ≤ 600000 by omega), (show slots + rm1.slots ≤ 7302250 by omega)⟩) (fun u1 H locs hw1 S => ?_)
  obtain ⟨hW1, hp1, hrP⟩ := hw1
  have S : Sw G A s.heap H locs ([] ++ (u1.1 ++ M9)) := S
  show W p l e _ s m _ below meth c H locs _ _ _ (F0 m 137 ls [.int u1.2.2])
  refine lv_aload_n hx hb d_La_law_137 rfl (lv_at hl 1 rfl) ?_
  refine lv_aload_n hx hb d_La_law_138 rfl (lv_at hl 3 rfl) ?_
  refine lv_iload_n hx hb d_La_law_139 rfl (lv_at hl 0 rfl) ?_
  refine lv_iconst (v := 1) hx hb d_La_law_140 (by decide) ?_
  refine z_iadd (v := nI (6 * t + 1)) hx hb d_La_law_141 (nI_add (6 * t) 1) ?_
  refine va_sld hx hb hX hbl hbA S.2.2 (i := nI (6 * t + 1)) (vp_in_nI (by omega) (by omega)) d_La_law_142 ?_
  refine lv_aload_n hx hb d_La_law_143 rfl (lv_at hl 3 rfl) ?_
  refine lv_iload_n hx hb d_La_law_144 rfl (lv_at hl 0 rfl) ?_
  refine lv_iconst (v := 2) hx hb d_La_law_145 (by decide) ?_
  refine z_iadd (v := nI (6 * t + 2)) hx hb d_La_law_146 (nI_add (6 * t) 2) ?_
  refine va_sld hx hb hX hbl hbA S.2.2 (i := nI (6 * t + 2)) (vp_in_nI (by omega) (by omega)) d_La_law_147 ?_
  obtain ⟨fs2, he2⟩ := rw_mem hM u1.1
  obtain ⟨rm2, hg1, hg2, hg3, hg4, hR⟩ := hR H.size (allSl H)
  refine q_backP (X := []) (wi := []) (wr := []) (pl := u1.1 ++ M9) (wo := fun _ => []) (pl1 := fun (u : va_W × Int32) => u1.1 ++ u.1) S hA [] [] rfl rfl (by decide) (by decide) (va_runV (As := [.int (xs (nI (6 * t + 1)).toNatClampNeg), .int (xs (nI (6 * t + 2)).toNatClampNeg)]) (rest := [.int u1.2.2]) ⟨hx, hb, C.2.2.1, C.2.2.2.1, C.2.2.2.2.1⟩ (cg_sa (wi := []) u1.1 hR) (k_virt (n := 2) C wc_Mo_word hg3 hg4 wz_Mo wm_La_22 wn_Mo_word ws_Mo_word (by decide +kernel) ⟨(show rm2.frames + 1 ≤ 2048 by omega), (show 8 + (_ + 11) + rm2.locals ≤ 84000 by omega)⟩) (pr_nowVGP K S [] (by decide) rfl he2 rfl) rfl rfl hl.1 rfl (lv_room (Nat.le_of_ble_eq_true rfl)) d_La_law_148 ⟨(show cells + (p9 - u1.2.1) + 0 ≤ 600000 by omega), (show slots + 2 * (p9 - u1.2.1) + 0 ≤ 7302250 by omega)⟩) (fun u2 H locs hw2 S => ?_)
  obtain ⟨hM1, hrM⟩ := hw2
  have S : Sw G A s.heap H locs ([] ++ (u1.1 ++ u2.1)) := S
  show W p l e _ s m _ below meth c H locs _ _ _ (F0 m 151 ls [.int u2.2, .int u1.2.2])
  refine lv_icmp_eq (tgt := 469) hx hb d_La_law_151 (by decide) (fun _ => ?_) (fun hq => absurd (hrP.trans hrM.symm) hq)
  exact next _ _ _ _ _ _ _ _ _ _ _ _ _ _ _ ls hW1 hM1 (by show cells + (p9 - u1.2.1) + 0 + u1.2.1 ≤ 368979; omega) (by show slots + 2 * (p9 - u1.2.1) + 0 + 2 * u1.2.1 ≤ 1141464; omega) S hl
set_option maxRecDepth 100000 in
set_option maxHeartbeats 4000000 in
theorem law_c2 {p : Program} {l : Launch} {e : Env} {s : State} {m : MethodId} {below : List Frame} {meth : Method} {c : Code} {G : va_G} {k : Nat → ClassId} {b L : Nat} {xs : Nat → Int32} {A : Nat → Prop} (C : Cx p s m #[Value.ref b] meth c code "PotentialBenchLaw" 4 ret meth.name) (K : Kn G k s) (hX : va_X b L xs s s.heap) (hbl : b < s.heap.size) (hA : ∀ q, s.heap.size ≤ q → A q) (hA2 : ∀ q, A q → s.heap.size ≤ q) {pb mo nf : Nat} {tk ct : Nat → Nat} {wd : Nat → Int32} {wp : Int32} {cz9 : Int64} {gv9 : Int32} {sp9 : Nat} {p9 : Nat} {W9 M9 : va_W} {H : Heap} {locs : List Loc} {cells slots : Nat} (hW : cwO k pb nf tk ct wd wp cz9 gv9 sp9 p9 W9) (hM : rwO k mo nf tk ct wd wp cz9 gv9 sp9 M9) (hc : cells + p9 ≤ 368979) (hs : slots + 2 * p9 ≤ 1141464) (S : Sw G A s.heap H locs ([] ++ (W9 ++ M9))) (hL : L ≤ 3072) {t : Nat} (ht : 6 * t + 6 ≤ L) (ls : Array Slot) (hl : lv_has ls 4 [(3, .int (nI (6 * t))), (2, .ref mo), (1, .ref pb), (0, .ref b)]) (next : lwN p l e s m below meth c G k b A pb mo t) : W p l e room_1 s m #[Value.ref b] below meth c H locs cells slots (lw_Z below #[Value.ref b] s) (F0 m 156 ls []) := by
  have hx := C.1
  have hb := C.2.1
  have hbA : ¬ A b := fun h => absurd (hA2 b h) (Nat.not_le.mpr hbl)
  refine lv_aload_n hx hb d_La_law_156 rfl (lv_at hl 2 rfl) ?_
  refine lv_aload_n hx hb d_La_law_157 rfl (lv_at hl 3 rfl) ?_
  refine lv_iload_n hx hb d_La_law_158 rfl (lv_at hl 0 rfl) ?_
  refine lv_iconst (v := 1) hx hb d_La_law_159 (by decide) ?_
  refine z_iadd (v := nI (6 * t + 1)) hx hb d_La_law_160 (nI_add (6 * t) 1) ?_
  refine va_sld hx hb hX hbl hbA S.2.2 (i := nI (6 * t + 1)) (vp_in_nI (by omega) (by omega)) d_La_law_161 ?_
  refine lv_aload_n hx hb d_La_law_162 rfl (lv_at hl 3 rfl) ?_
  refine lv_iload_n hx hb d_La_law_163 rfl (lv_at hl 0 rfl) ?_
  refine lv_iconst (v := 2) hx hb d_La_law_164 (by decide) ?_
  refine z_iadd (v := nI (6 * t + 2)) hx hb d_La_law_165 (nI_add (6 * t) 2) ?_
  refine va_sld hx hb hX hbl hbA S.2.2 (i := nI (6 * t + 2)) (vp_in_nI (by omega) (by omega)) d_La_law_166 ?_
  obtain ⟨nf2, tk2, ct2, wd2, wp2, cz2, gv2, sp2, r2, hC, hR⟩ := b_cut (l := l) (G := G) hW hM (xs (nI (6 * t + 1)).toNatClampNeg) (xs (nI (6 * t + 2)).toNatClampNeg)
  obtain ⟨fs1, he1⟩ := cw_mem hW M9
  obtain ⟨rm1, hr1, hr2, hr3, hr4, hC⟩ := hC H.size (allSl H)
  refine q_backP (X := []) (wi := []) (wr := []) (pl := W9 ++ M9) (wo := fun _ => []) (pl1 := fun (u : va_W × Nat × Int32) => u.1 ++ M9) S hA [] [] rfl rfl (by decide) (by decide) (va_runV (As := [.int (xs (nI (6 * t + 1)).toNatClampNeg), .int (xs (nI (6 * t + 2)).toNatClampNeg)]) (rest := []) ⟨hx, hb, C.2.2.1, C.2.2.2.1, C.2.2.2.2.1⟩ (cg_as (wi := []) M9 hC) (k_virt (n := 2) C wc_PB_cut rfl rfl wz_PB wm_La_23 wn_PB_cut ws_PB_cut (by decide +kernel) ⟨(show rm1.frames + 1 ≤ 2048 by omega), (show 8 + (_ + 11) + rm1.locals ≤ 84000 by omega)⟩) (pr_nowVGP K S [] (by decide) rfl he1 rfl) rfl rfl hl.1 rfl (lv_room (Nat.le_of_ble_eq_true rfl)) d_La_law_167 ⟨(show cells + rm1.cells ≤ 600000 by omega), (show slots + rm1.slots ≤ 7302250 by omega)⟩) (fun u1 H locs hw1 S => ?_)
  obtain ⟨hW1, hp1, hrP⟩ := hw1
  have S : Sw G A s.heap H locs ([] ++ (u1.1 ++ M9)) := S
  show W p l e _ s m _ below meth c H locs _ _ _ (F0 m 170 ls [.int u1.2.2])
  refine lv_pop hx hb d_La_law_170 rfl ?_
  refine lv_aload_n hx hb d_La_law_171 rfl (lv_at hl 1 rfl) ?_
  refine lv_aload_n hx hb d_La_law_172 rfl (lv_at hl 3 rfl) ?_
  refine lv_iload_n hx hb d_La_law_173 rfl (lv_at hl 0 rfl) ?_
  refine lv_iconst (v := 1) hx hb d_La_law_174 (by decide) ?_
  refine z_iadd (v := nI (6 * t + 1)) hx hb d_La_law_175 (nI_add (6 * t) 1) ?_
  refine va_sld hx hb hX hbl hbA S.2.2 (i := nI (6 * t + 1)) (vp_in_nI (by omega) (by omega)) d_La_law_176 ?_
  refine lv_aload_n hx hb d_La_law_177 rfl (lv_at hl 3 rfl) ?_
  refine lv_iload_n hx hb d_La_law_178 rfl (lv_at hl 0 rfl) ?_
  refine lv_iconst (v := 2) hx hb d_La_law_179 (by decide) ?_
  refine z_iadd (v := nI (6 * t + 2)) hx hb d_La_law_180 (nI_add (6 * t) 2) ?_
  refine va_sld hx hb hX hbl hbA S.2.2 (i := nI (6 * t + 2)) (vp_in_nI (by omega) (by omega)) d_La_law_181 ?_
  obtain ⟨fs2, he2⟩ := rw_mem hM u1.1
  obtain ⟨rm2, hg1, hg2, hg3, hg4, hR⟩ := hR H.size (allSl H)
  refine q_backP (X := []) (wi := []) (wr := []) (pl := u1.1 ++ M9) (wo := fun _ => []) (pl1 := fun (u : va_W × Int32) => u1.1 ++ u.1) S hA [] [] rfl rfl (by decide) (by decide) (va_runV (As := [.int (xs (nI (6 * t + 1)).toNatClampNeg), .int (xs (nI (6 * t + 2)).toNatClampNeg)]) (rest := []) ⟨hx, hb, C.2.2.1, C.2.2.2.1, C.2.2.2.2.1⟩ (cg_sa (wi := []) u1.1 hR) (k_virt (n := 2) C wc_Mo_cut hg3 hg4 wz_Mo wm_La_27 wn_Mo_cut ws_Mo_cut (by decide +kernel) ⟨(show rm2.frames + 1 ≤ 2048 by omega), (show 8 + (_ + 11) + rm2.locals ≤ 84000 by omega)⟩) (pr_nowVGP K S [] (by decide) rfl he2 rfl) rfl rfl hl.1 rfl (lv_room (Nat.le_of_ble_eq_true rfl)) d_La_law_182 ⟨(show cells + (p9 - u1.2.1) + 0 ≤ 600000 by omega), (show slots + 2 * (p9 - u1.2.1) + 0 ≤ 7302250 by omega)⟩) (fun u2 H locs hw2 S => ?_)
  obtain ⟨hM1, hrM⟩ := hw2
  have S : Sw G A s.heap H locs ([] ++ (u1.1 ++ u2.1)) := S
  show W p l e _ s m _ below meth c H locs _ _ _ (F0 m 185 ls [.int u2.2])
  refine lv_pop hx hb d_La_law_185 rfl ?_
  refine lv_goto (tgt := 469) hx hb d_La_law_186 (by decide) ?_
  exact next _ _ _ _ _ _ _ _ _ _ _ _ _ _ _ ls hW1 hM1 (by show cells + (p9 - u1.2.1) + 0 + u1.2.1 ≤ 368979; omega) (by show slots + 2 * (p9 - u1.2.1) + 0 + 2 * u1.2.1 ≤ 1141464; omega) S hl
set_option maxRecDepth 100000 in
set_option maxHeartbeats 4000000 in
theorem law_c3 {p : Program} {l : Launch} {e : Env} {s : State} {m : MethodId} {below : List Frame} {meth : Method} {c : Code} {G : va_G} {k : Nat → ClassId} {b L : Nat} {xs : Nat → Int32} {A : Nat → Prop} (C : Cx p s m #[Value.ref b] meth c code "PotentialBenchLaw" 4 ret meth.name) (K : Kn G k s) (hX : va_X b L xs s s.heap) (hbl : b < s.heap.size) (hA : ∀ q, s.heap.size ≤ q → A q) (hA2 : ∀ q, A q → s.heap.size ≤ q) {pb mo nf : Nat} {tk ct : Nat → Nat} {wd : Nat → Int32} {wp : Int32} {cz9 : Int64} {gv9 : Int32} {sp9 : Nat} {p9 : Nat} {W9 M9 : va_W} {H : Heap} {locs : List Loc} {cells slots : Nat} (hW : cwO k pb nf tk ct wd wp cz9 gv9 sp9 p9 W9) (hM : rwO k mo nf tk ct wd wp cz9 gv9 sp9 M9) (hc : cells + p9 ≤ 368979) (hs : slots + 2 * p9 ≤ 1141464) (S : Sw G A s.heap H locs ([] ++ (W9 ++ M9))) (hL : L ≤ 3072) {t : Nat} (ht : 6 * t + 6 ≤ L) (ls : Array Slot) (hl : lv_has ls 4 [(3, .int (nI (6 * t))), (2, .ref mo), (1, .ref pb), (0, .ref b)]) (next : lwN p l e s m below meth c G k b A pb mo t) : W p l e room_1 s m #[Value.ref b] below meth c H locs cells slots (lw_Z below #[Value.ref b] s) (F0 m 189 ls []) := by
  have hx := C.1
  have hb := C.2.1
  have hbA : ¬ A b := fun h => absurd (hA2 b h) (Nat.not_le.mpr hbl)
  refine lv_aload_n hx hb d_La_law_189 rfl (lv_at hl 2 rfl) ?_
  obtain ⟨nf2, tk2, ct2, wd2, wp2, cz2, gv2, sp2, r2, hC, hR⟩ := b_look (l := l) (G := G) hW hM 
  obtain ⟨fs1, he1⟩ := cw_mem hW M9
  obtain ⟨rm1, hr1, hr2, hr3, hr4, hC⟩ := hC H.size (allSl H)
  refine q_backP (X := []) (wi := []) (wr := []) (pl := W9 ++ M9) (wo := fun _ => []) (pl1 := fun (u : va_W × Nat × Int32) => u.1 ++ M9) S hA [] [] rfl rfl (by decide) (by decide) (va_runV (As := []) (rest := []) ⟨hx, hb, C.2.2.1, C.2.2.2.1, C.2.2.2.2.1⟩ (cg_as (wi := []) M9 hC) (k_virt (n := 0) C wc_PB_look rfl rfl wz_PB wm_La_28 wn_PB_look ws_PB_look (by decide +kernel) ⟨(show rm1.frames + 1 ≤ 2048 by omega), (show 8 + (_ + 11) + rm1.locals ≤ 84000 by omega)⟩) (pr_nowVGP K S [] (by decide) rfl he1 rfl) rfl rfl hl.1 rfl (lv_room (Nat.le_of_ble_eq_true rfl)) d_La_law_190 ⟨(show cells + rm1.cells ≤ 600000 by omega), (show slots + rm1.slots ≤ 7302250 by omega)⟩) (fun u1 H locs hw1 S => ?_)
  obtain ⟨hW1, hp1, hrP⟩ := hw1
  have S : Sw G A s.heap H locs ([] ++ (u1.1 ++ M9)) := S
  show W p l e _ s m _ below meth c H locs _ _ _ (F0 m 193 ls [.int u1.2.2])
  refine lv_pop hx hb d_La_law_193 rfl ?_
  refine lv_aload_n hx hb d_La_law_194 rfl (lv_at hl 1 rfl) ?_
  obtain ⟨fs2, he2⟩ := rw_mem hM u1.1
  obtain ⟨rm2, hg1, hg2, hg3, hg4, hR⟩ := hR H.size (allSl H)
  refine q_backP (X := []) (wi := []) (wr := []) (pl := u1.1 ++ M9) (wo := fun _ => []) (pl1 := fun (u : va_W × Int32) => u1.1 ++ u.1) S hA [] [] rfl rfl (by decide) (by decide) (va_runV (As := []) (rest := []) ⟨hx, hb, C.2.2.1, C.2.2.2.1, C.2.2.2.2.1⟩ (cg_sa (wi := []) u1.1 hR) (k_virt (n := 0) C wc_Mo_look hg3 hg4 wz_Mo wm_La_32 wn_Mo_look ws_Mo_look (by decide +kernel) ⟨(show rm2.frames + 1 ≤ 2048 by omega), (show 8 + (_ + 11) + rm2.locals ≤ 84000 by omega)⟩) (pr_nowVGP K S [] (by decide) rfl he2 rfl) rfl rfl hl.1 rfl (lv_room (Nat.le_of_ble_eq_true rfl)) d_La_law_195 ⟨(show cells + (p9 - u1.2.1) + 0 ≤ 600000 by omega), (show slots + 2 * (p9 - u1.2.1) + 0 ≤ 7302250 by omega)⟩) (fun u2 H locs hw2 S => ?_)
  obtain ⟨hM1, hrM⟩ := hw2
  have S : Sw G A s.heap H locs ([] ++ (u1.1 ++ u2.1)) := S
  show W p l e _ s m _ below meth c H locs _ _ _ (F0 m 198 ls [.int u2.2])
  refine lv_pop hx hb d_La_law_198 rfl ?_
  refine lv_goto (tgt := 469) hx hb d_La_law_199 (by decide) ?_
  exact next _ _ _ _ _ _ _ _ _ _ _ _ _ _ _ ls hW1 hM1 (by show cells + (p9 - u1.2.1) + 0 + u1.2.1 ≤ 368979; omega) (by show slots + 2 * (p9 - u1.2.1) + 0 + 2 * u1.2.1 ≤ 1141464; omega) S hl
set_option maxRecDepth 100000 in
set_option maxHeartbeats 4000000 in
theorem law_c4 {p : Program} {l : Launch} {e : Env} {s : State} {m : MethodId} {below : List Frame} {meth : Method} {c : Code} {G : va_G} {k : Nat → ClassId} {b L : Nat} {xs : Nat → Int32} {A : Nat → Prop} (C : Cx p s m #[Value.ref b] meth c code "PotentialBenchLaw" 4 ret meth.name) (K : Kn G k s) (hX : va_X b L xs s s.heap) (hbl : b < s.heap.size) (hA : ∀ q, s.heap.size ≤ q → A q) (hA2 : ∀ q, A q → s.heap.size ≤ q) {pb mo nf : Nat} {tk ct : Nat → Nat} {wd : Nat → Int32} {wp : Int32} {cz9 : Int64} {gv9 : Int32} {sp9 : Nat} {p9 : Nat} {W9 M9 : va_W} {H : Heap} {locs : List Loc} {cells slots : Nat} (hW : cwO k pb nf tk ct wd wp cz9 gv9 sp9 p9 W9) (hM : rwO k mo nf tk ct wd wp cz9 gv9 sp9 M9) (hc : cells + p9 ≤ 368979) (hs : slots + 2 * p9 ≤ 1141464) (S : Sw G A s.heap H locs ([] ++ (W9 ++ M9))) (hL : L ≤ 3072) {t : Nat} (ht : 6 * t + 6 ≤ L) (ls : Array Slot) (hl : lv_has ls 4 [(3, .int (nI (6 * t))), (2, .ref mo), (1, .ref pb), (0, .ref b)]) (next : lwN p l e s m below meth c G k b A pb mo t) : W p l e room_1 s m #[Value.ref b] below meth c H locs cells slots (lw_Z below #[Value.ref b] s) (F0 m 202 ls []) := by
  have hx := C.1
  have hb := C.2.1
  have hbA : ¬ A b := fun h => absurd (hA2 b h) (Nat.not_le.mpr hbl)
  refine lv_aload_n hx hb d_La_law_202 rfl (lv_at hl 2 rfl) ?_
  obtain ⟨nf2, tk2, ct2, wd2, wp2, cz2, gv2, sp2, r2, hC, hR⟩ := b_place (l := l) (G := G) hW hM 
  obtain ⟨fs1, he1⟩ := cw_mem hW M9
  obtain ⟨rm1, hr1, hr2, hr3, hr4, hC⟩ := hC H.size (allSl H)
  refine q_backP (X := []) (wi := []) (wr := []) (pl := W9 ++ M9) (wo := fun _ => []) (pl1 := fun (u : va_W × Nat × Int32) => u.1 ++ M9) S hA [] [] rfl rfl (by decide) (by decide) (va_runV (As := []) (rest := []) ⟨hx, hb, C.2.2.1, C.2.2.2.1, C.2.2.2.2.1⟩ (cg_as (wi := []) M9 hC) (k_virt (n := 0) C wc_PB_place rfl rfl wz_PB wm_La_33 wn_PB_place ws_PB_place (by decide +kernel) ⟨(show rm1.frames + 1 ≤ 2048 by omega), (show 8 + (_ + 11) + rm1.locals ≤ 84000 by omega)⟩) (pr_nowVGP K S [] (by decide) rfl he1 rfl) rfl rfl hl.1 rfl (lv_room (Nat.le_of_ble_eq_true rfl)) d_La_law_203 ⟨(show cells + rm1.cells ≤ 600000 by omega), (show slots + rm1.slots ≤ 7302250 by omega)⟩) (fun u1 H locs hw1 S => ?_)
  obtain ⟨hW1, hp1, hrP⟩ := hw1
  have S : Sw G A s.heap H locs ([] ++ (u1.1 ++ M9)) := S
  show W p l e _ s m _ below meth c H locs _ _ _ (F0 m 206 ls [.int u1.2.2])
  refine lv_pop hx hb d_La_law_206 rfl ?_
  refine lv_aload_n hx hb d_La_law_207 rfl (lv_at hl 1 rfl) ?_
  obtain ⟨fs2, he2⟩ := rw_mem hM u1.1
  obtain ⟨rm2, hg1, hg2, hg3, hg4, hR⟩ := hR H.size (allSl H)
  refine q_backP (X := []) (wi := []) (wr := []) (pl := u1.1 ++ M9) (wo := fun _ => []) (pl1 := fun (u : va_W × Int32) => u1.1 ++ u.1) S hA [] [] rfl rfl (by decide) (by decide) (va_runV (As := []) (rest := []) ⟨hx, hb, C.2.2.1, C.2.2.2.1, C.2.2.2.2.1⟩ (cg_sa (wi := []) u1.1 hR) (k_virt (n := 0) C wc_Mo_place hg3 hg4 wz_Mo wm_La_36 wn_Mo_place ws_Mo_place (by decide +kernel) ⟨(show rm2.frames + 1 ≤ 2048 by omega), (show 8 + (_ + 11) + rm2.locals ≤ 84000 by omega)⟩) (pr_nowVGP K S [] (by decide) rfl he2 rfl) rfl rfl hl.1 rfl (lv_room (Nat.le_of_ble_eq_true rfl)) d_La_law_208 ⟨(show cells + (p9 - u1.2.1) + 0 ≤ 600000 by omega), (show slots + 2 * (p9 - u1.2.1) + 0 ≤ 7302250 by omega)⟩) (fun u2 H locs hw2 S => ?_)
  obtain ⟨hM1, hrM⟩ := hw2
  have S : Sw G A s.heap H locs ([] ++ (u1.1 ++ u2.1)) := S
  show W p l e _ s m _ below meth c H locs _ _ _ (F0 m 211 ls [.int u2.2])
  refine lv_pop hx hb d_La_law_211 rfl ?_
  refine lv_goto (tgt := 469) hx hb d_La_law_212 (by decide) ?_
  exact next _ _ _ _ _ _ _ _ _ _ _ _ _ _ _ ls hW1 hM1 (by show cells + (p9 - u1.2.1) + 0 + u1.2.1 ≤ 368979; omega) (by show slots + 2 * (p9 - u1.2.1) + 0 + 2 * u1.2.1 ≤ 1141464; omega) S hl
set_option maxRecDepth 100000 in
set_option maxHeartbeats 4000000 in
theorem law_c5 {p : Program} {l : Launch} {e : Env} {s : State} {m : MethodId} {below : List Frame} {meth : Method} {c : Code} {G : va_G} {k : Nat → ClassId} {b L : Nat} {xs : Nat → Int32} {A : Nat → Prop} (C : Cx p s m #[Value.ref b] meth c code "PotentialBenchLaw" 4 ret meth.name) (K : Kn G k s) (hX : va_X b L xs s s.heap) (hbl : b < s.heap.size) (hA : ∀ q, s.heap.size ≤ q → A q) (hA2 : ∀ q, A q → s.heap.size ≤ q) {pb mo nf : Nat} {tk ct : Nat → Nat} {wd : Nat → Int32} {wp : Int32} {cz9 : Int64} {gv9 : Int32} {sp9 : Nat} {p9 : Nat} {W9 M9 : va_W} {H : Heap} {locs : List Loc} {cells slots : Nat} (hW : cwO k pb nf tk ct wd wp cz9 gv9 sp9 p9 W9) (hM : rwO k mo nf tk ct wd wp cz9 gv9 sp9 M9) (hc : cells + p9 ≤ 368979) (hs : slots + 2 * p9 ≤ 1141464) (S : Sw G A s.heap H locs ([] ++ (W9 ++ M9))) (hL : L ≤ 3072) {t : Nat} (ht : 6 * t + 6 ≤ L) (ls : Array Slot) (hl : lv_has ls 4 [(3, .int (nI (6 * t))), (2, .ref mo), (1, .ref pb), (0, .ref b)]) (next : lwN p l e s m below meth c G k b A pb mo t) : W p l e room_1 s m #[Value.ref b] below meth c H locs cells slots (lw_Z below #[Value.ref b] s) (F0 m 215 ls []) := by
  have hx := C.1
  have hb := C.2.1
  have hbA : ¬ A b := fun h => absurd (hA2 b h) (Nat.not_le.mpr hbl)
  refine lv_aload_n hx hb d_La_law_215 rfl (lv_at hl 2 rfl) ?_
  refine lv_aload_n hx hb d_La_law_216 rfl (lv_at hl 3 rfl) ?_
  refine lv_iload_n hx hb d_La_law_217 rfl (lv_at hl 0 rfl) ?_
  refine lv_iconst (v := 1) hx hb d_La_law_218 (by decide) ?_
  refine z_iadd (v := nI (6 * t + 1)) hx hb d_La_law_219 (nI_add (6 * t) 1) ?_
  refine va_sld hx hb hX hbl hbA S.2.2 (i := nI (6 * t + 1)) (vp_in_nI (by omega) (by omega)) d_La_law_220 ?_
  refine lv_aload_n hx hb d_La_law_221 rfl (lv_at hl 3 rfl) ?_
  refine lv_iload_n hx hb d_La_law_222 rfl (lv_at hl 0 rfl) ?_
  refine lv_iconst (v := 2) hx hb d_La_law_223 (by decide) ?_
  refine z_iadd (v := nI (6 * t + 2)) hx hb d_La_law_224 (nI_add (6 * t) 2) ?_
  refine va_sld hx hb hX hbl hbA S.2.2 (i := nI (6 * t + 2)) (vp_in_nI (by omega) (by omega)) d_La_law_225 ?_
  refine lv_aload_n hx hb d_La_law_226 rfl (lv_at hl 3 rfl) ?_
  refine lv_iload_n hx hb d_La_law_227 rfl (lv_at hl 0 rfl) ?_
  refine lv_iconst (v := 3) hx hb d_La_law_228 (by decide) ?_
  refine z_iadd (v := nI (6 * t + 3)) hx hb d_La_law_229 (nI_add (6 * t) 3) ?_
  refine va_sld hx hb hX hbl hbA S.2.2 (i := nI (6 * t + 3)) (vp_in_nI (by omega) (by omega)) d_La_law_230 ?_
  refine lv_aload_n hx hb d_La_law_231 rfl (lv_at hl 3 rfl) ?_
  refine lv_iload_n hx hb d_La_law_232 rfl (lv_at hl 0 rfl) ?_
  refine lv_iconst (v := 4) hx hb d_La_law_233 (by decide) ?_
  refine z_iadd (v := nI (6 * t + 4)) hx hb d_La_law_234 (nI_add (6 * t) 4) ?_
  refine va_sld hx hb hX hbl hbA S.2.2 (i := nI (6 * t + 4)) (vp_in_nI (by omega) (by omega)) d_La_law_235 ?_
  obtain ⟨nf2, tk2, ct2, wd2, wp2, cz2, gv2, sp2, r2, hC, hR⟩ := b_run (l := l) (G := G) hW hM (xs (nI (6 * t + 1)).toNatClampNeg) (xs (nI (6 * t + 2)).toNatClampNeg) (xs (nI (6 * t + 3)).toNatClampNeg) (xs (nI (6 * t + 4)).toNatClampNeg)
  obtain ⟨fs1, he1⟩ := cw_mem hW M9
  obtain ⟨rm1, hr1, hr2, hr3, hr4, hC⟩ := hC H.size (allSl H)
  refine q_backP (X := []) (wi := []) (wr := []) (pl := W9 ++ M9) (wo := fun _ => []) (pl1 := fun (u : va_W × Nat × Int32) => u.1 ++ M9) S hA [] [] rfl rfl (by decide) (by decide) (va_runV (As := [.int (xs (nI (6 * t + 1)).toNatClampNeg), .int (xs (nI (6 * t + 2)).toNatClampNeg), .int (xs (nI (6 * t + 3)).toNatClampNeg), .int (xs (nI (6 * t + 4)).toNatClampNeg)]) (rest := []) ⟨hx, hb, C.2.2.1, C.2.2.2.1, C.2.2.2.2.1⟩ (cg_as (wi := []) M9 hC) (k_virt (n := 4) C wc_PB_run rfl rfl wz_PB wm_La_37 wn_PB_run ws_PB_run (by decide +kernel) ⟨(show rm1.frames + 1 ≤ 2048 by omega), (show 8 + (_ + 11) + rm1.locals ≤ 84000 by omega)⟩) (pr_nowVGP K S [] (by decide) rfl he1 rfl) rfl rfl hl.1 rfl (lv_room (Nat.le_of_ble_eq_true rfl)) d_La_law_236 ⟨(show cells + rm1.cells ≤ 600000 by omega), (show slots + rm1.slots ≤ 7302250 by omega)⟩) (fun u1 H locs hw1 S => ?_)
  obtain ⟨hW1, hp1, hrP⟩ := hw1
  have S : Sw G A s.heap H locs ([] ++ (u1.1 ++ M9)) := S
  show W p l e _ s m _ below meth c H locs _ _ _ (F0 m 239 ls [.int u1.2.2])
  refine lv_pop hx hb d_La_law_239 rfl ?_
  refine lv_aload_n hx hb d_La_law_240 rfl (lv_at hl 1 rfl) ?_
  refine lv_aload_n hx hb d_La_law_241 rfl (lv_at hl 3 rfl) ?_
  refine lv_iload_n hx hb d_La_law_242 rfl (lv_at hl 0 rfl) ?_
  refine lv_iconst (v := 1) hx hb d_La_law_243 (by decide) ?_
  refine z_iadd (v := nI (6 * t + 1)) hx hb d_La_law_244 (nI_add (6 * t) 1) ?_
  refine va_sld hx hb hX hbl hbA S.2.2 (i := nI (6 * t + 1)) (vp_in_nI (by omega) (by omega)) d_La_law_245 ?_
  refine lv_aload_n hx hb d_La_law_246 rfl (lv_at hl 3 rfl) ?_
  refine lv_iload_n hx hb d_La_law_247 rfl (lv_at hl 0 rfl) ?_
  refine lv_iconst (v := 2) hx hb d_La_law_248 (by decide) ?_
  refine z_iadd (v := nI (6 * t + 2)) hx hb d_La_law_249 (nI_add (6 * t) 2) ?_
  refine va_sld hx hb hX hbl hbA S.2.2 (i := nI (6 * t + 2)) (vp_in_nI (by omega) (by omega)) d_La_law_250 ?_
  refine lv_aload_n hx hb d_La_law_251 rfl (lv_at hl 3 rfl) ?_
  refine lv_iload_n hx hb d_La_law_252 rfl (lv_at hl 0 rfl) ?_
  refine lv_iconst (v := 3) hx hb d_La_law_253 (by decide) ?_
  refine z_iadd (v := nI (6 * t + 3)) hx hb d_La_law_254 (nI_add (6 * t) 3) ?_
  refine va_sld hx hb hX hbl hbA S.2.2 (i := nI (6 * t + 3)) (vp_in_nI (by omega) (by omega)) d_La_law_255 ?_
  refine lv_aload_n hx hb d_La_law_256 rfl (lv_at hl 3 rfl) ?_
  refine lv_iload_n hx hb d_La_law_257 rfl (lv_at hl 0 rfl) ?_
  refine lv_iconst (v := 4) hx hb d_La_law_258 (by decide) ?_
  refine z_iadd (v := nI (6 * t + 4)) hx hb d_La_law_259 (nI_add (6 * t) 4) ?_
  refine va_sld hx hb hX hbl hbA S.2.2 (i := nI (6 * t + 4)) (vp_in_nI (by omega) (by omega)) d_La_law_260 ?_
  obtain ⟨fs2, he2⟩ := rw_mem hM u1.1
  obtain ⟨rm2, hg1, hg2, hg3, hg4, hR⟩ := hR H.size (allSl H)
  refine q_backP (X := []) (wi := []) (wr := []) (pl := u1.1 ++ M9) (wo := fun _ => []) (pl1 := fun (u : va_W × Int32) => u1.1 ++ u.1) S hA [] [] rfl rfl (by decide) (by decide) (va_runV (As := [.int (xs (nI (6 * t + 1)).toNatClampNeg), .int (xs (nI (6 * t + 2)).toNatClampNeg), .int (xs (nI (6 * t + 3)).toNatClampNeg), .int (xs (nI (6 * t + 4)).toNatClampNeg)]) (rest := []) ⟨hx, hb, C.2.2.1, C.2.2.2.1, C.2.2.2.2.1⟩ (cg_sa (wi := []) u1.1 hR) (k_virt (n := 4) C wc_Mo_run hg3 hg4 wz_Mo wm_La_41 wn_Mo_run ws_Mo_run (by decide +kernel) ⟨(show rm2.frames + 1 ≤ 2048 by omega), (show 8 + (_ + 11) + rm2.locals ≤ 84000 by omega)⟩) (pr_nowVGP K S [] (by decide) rfl he2 rfl) rfl rfl hl.1 rfl (lv_room (Nat.le_of_ble_eq_true rfl)) d_La_law_261 ⟨(show cells + (p9 - u1.2.1) + 0 ≤ 600000 by omega), (show slots + 2 * (p9 - u1.2.1) + 0 ≤ 7302250 by omega)⟩) (fun u2 H locs hw2 S => ?_)
  obtain ⟨hM1, hrM⟩ := hw2
  have S : Sw G A s.heap H locs ([] ++ (u1.1 ++ u2.1)) := S
  show W p l e _ s m _ below meth c H locs _ _ _ (F0 m 264 ls [.int u2.2])
  refine lv_pop hx hb d_La_law_264 rfl ?_
  refine lv_goto (tgt := 469) hx hb d_La_law_265 (by decide) ?_
  exact next _ _ _ _ _ _ _ _ _ _ _ _ _ _ _ ls hW1 hM1 (by show cells + (p9 - u1.2.1) + 0 + u1.2.1 ≤ 368979; omega) (by show slots + 2 * (p9 - u1.2.1) + 0 + 2 * u1.2.1 ≤ 1141464; omega) S hl
set_option maxRecDepth 100000 in
set_option maxHeartbeats 4000000 in
theorem law_c6 {p : Program} {l : Launch} {e : Env} {s : State} {m : MethodId} {below : List Frame} {meth : Method} {c : Code} {G : va_G} {k : Nat → ClassId} {b L : Nat} {xs : Nat → Int32} {A : Nat → Prop} (C : Cx p s m #[Value.ref b] meth c code "PotentialBenchLaw" 4 ret meth.name) (K : Kn G k s) (hX : va_X b L xs s s.heap) (hbl : b < s.heap.size) (hA : ∀ q, s.heap.size ≤ q → A q) (hA2 : ∀ q, A q → s.heap.size ≤ q) {pb mo nf : Nat} {tk ct : Nat → Nat} {wd : Nat → Int32} {wp : Int32} {cz9 : Int64} {gv9 : Int32} {sp9 : Nat} {p9 : Nat} {W9 M9 : va_W} {H : Heap} {locs : List Loc} {cells slots : Nat} (hW : cwO k pb nf tk ct wd wp cz9 gv9 sp9 p9 W9) (hM : rwO k mo nf tk ct wd wp cz9 gv9 sp9 M9) (hc : cells + p9 ≤ 368979) (hs : slots + 2 * p9 ≤ 1141464) (S : Sw G A s.heap H locs ([] ++ (W9 ++ M9))) (hL : L ≤ 3072) {t : Nat} (ht : 6 * t + 6 ≤ L) (ls : Array Slot) (hl : lv_has ls 4 [(3, .int (nI (6 * t))), (2, .ref mo), (1, .ref pb), (0, .ref b)]) (next : lwN p l e s m below meth c G k b A pb mo t) : W p l e room_1 s m #[Value.ref b] below meth c H locs cells slots (lw_Z below #[Value.ref b] s) (F0 m 268 ls []) := by
  have hx := C.1
  have hb := C.2.1
  have hbA : ¬ A b := fun h => absurd (hA2 b h) (Nat.not_le.mpr hbl)
  refine lv_aload_n hx hb d_La_law_268 rfl (lv_at hl 2 rfl) ?_
  obtain ⟨nf2, tk2, ct2, wd2, wp2, cz2, gv2, sp2, r2, hC, hR⟩ := b_cost (l := l) (G := G) hW hM 
  obtain ⟨fs1, he1⟩ := cw_mem hW M9
  obtain ⟨rm1, hr1, hr2, hr3, hr4, hC⟩ := hC H.size (allSl H)
  refine q_backP (X := []) (wi := []) (wr := []) (pl := W9 ++ M9) (wo := fun _ => []) (pl1 := fun (u : va_W × Nat × Int64) => u.1 ++ M9) S hA [] [] rfl rfl (by decide) (by decide) (va_runV (As := []) (rest := []) ⟨hx, hb, C.2.2.1, C.2.2.2.1, C.2.2.2.2.1⟩ (cg_as (wi := []) M9 hC) (k_virt (n := 0) C wc_PB_cost rfl rfl wz_PB wm_La_42 wn_PB_cost ws_PB_cost (by decide +kernel) ⟨(show rm1.frames + 1 ≤ 2048 by omega), (show 8 + (_ + 11) + rm1.locals ≤ 84000 by omega)⟩) (pr_nowVGP K S [] (by decide) rfl he1 rfl) rfl rfl hl.1 rfl (lv_room (Nat.le_of_ble_eq_true rfl)) d_La_law_269 ⟨(show cells + rm1.cells ≤ 600000 by omega), (show slots + rm1.slots ≤ 7302250 by omega)⟩) (fun u1 H locs hw1 S => ?_)
  obtain ⟨hW1, hp1, hrP⟩ := hw1
  have S : Sw G A s.heap H locs ([] ++ (u1.1 ++ M9)) := S
  show W p l e _ s m _ below meth c H locs _ _ _ (F0 m 272 ls [.long u1.2.2])
  refine lv_pop2_2 hx hb d_La_law_272 rfl ?_
  refine lv_aload_n hx hb d_La_law_273 rfl (lv_at hl 1 rfl) ?_
  obtain ⟨fs2, he2⟩ := rw_mem hM u1.1
  obtain ⟨rm2, hg1, hg2, hg3, hg4, hR⟩ := hR H.size (allSl H)
  refine q_backP (X := []) (wi := []) (wr := []) (pl := u1.1 ++ M9) (wo := fun _ => []) (pl1 := fun (u : va_W × Int64) => u1.1 ++ u.1) S hA [] [] rfl rfl (by decide) (by decide) (va_runV (As := []) (rest := []) ⟨hx, hb, C.2.2.1, C.2.2.2.1, C.2.2.2.2.1⟩ (cg_sa (wi := []) u1.1 hR) (k_virt (n := 0) C wc_Mo_cost hg3 hg4 wz_Mo wm_La_46 wn_Mo_cost ws_Mo_cost (by decide +kernel) ⟨(show rm2.frames + 1 ≤ 2048 by omega), (show 8 + (_ + 11) + rm2.locals ≤ 84000 by omega)⟩) (pr_nowVGP K S [] (by decide) rfl he2 rfl) rfl rfl hl.1 rfl (lv_room (Nat.le_of_ble_eq_true rfl)) d_La_law_274 ⟨(show cells + (p9 - u1.2.1) + 0 ≤ 600000 by omega), (show slots + 2 * (p9 - u1.2.1) + 0 ≤ 7302250 by omega)⟩) (fun u2 H locs hw2 S => ?_)
  obtain ⟨hM1, hrM⟩ := hw2
  have S : Sw G A s.heap H locs ([] ++ (u1.1 ++ u2.1)) := S
  show W p l e _ s m _ below meth c H locs _ _ _ (F0 m 277 ls [.long u2.2])
  refine lv_pop2_2 hx hb d_La_law_277 rfl ?_
  refine lv_goto (tgt := 469) hx hb d_La_law_278 (by decide) ?_
  exact next _ _ _ _ _ _ _ _ _ _ _ _ _ _ _ ls hW1 hM1 (by show cells + (p9 - u1.2.1) + 0 + u1.2.1 ≤ 368979; omega) (by show slots + 2 * (p9 - u1.2.1) + 0 + 2 * u1.2.1 ≤ 1141464; omega) S hl
set_option maxRecDepth 100000 in
set_option maxHeartbeats 4000000 in
theorem law_c7 {p : Program} {l : Launch} {e : Env} {s : State} {m : MethodId} {below : List Frame} {meth : Method} {c : Code} {G : va_G} {k : Nat → ClassId} {b L : Nat} {xs : Nat → Int32} {A : Nat → Prop} (C : Cx p s m #[Value.ref b] meth c code "PotentialBenchLaw" 4 ret meth.name) (K : Kn G k s) (hX : va_X b L xs s s.heap) (hbl : b < s.heap.size) (hA : ∀ q, s.heap.size ≤ q → A q) (hA2 : ∀ q, A q → s.heap.size ≤ q) {pb mo nf : Nat} {tk ct : Nat → Nat} {wd : Nat → Int32} {wp : Int32} {cz9 : Int64} {gv9 : Int32} {sp9 : Nat} {p9 : Nat} {W9 M9 : va_W} {H : Heap} {locs : List Loc} {cells slots : Nat} (hW : cwO k pb nf tk ct wd wp cz9 gv9 sp9 p9 W9) (hM : rwO k mo nf tk ct wd wp cz9 gv9 sp9 M9) (hc : cells + p9 ≤ 368979) (hs : slots + 2 * p9 ≤ 1141464) (S : Sw G A s.heap H locs ([] ++ (W9 ++ M9))) (hL : L ≤ 3072) {t : Nat} (ht : 6 * t + 6 ≤ L) (ls : Array Slot) (hl : lv_has ls 4 [(3, .int (nI (6 * t))), (2, .ref mo), (1, .ref pb), (0, .ref b)]) (next : lwN p l e s m below meth c G k b A pb mo t) : W p l e room_1 s m #[Value.ref b] below meth c H locs cells slots (lw_Z below #[Value.ref b] s) (F0 m 281 ls []) := by
  have hx := C.1
  have hb := C.2.1
  have hbA : ¬ A b := fun h => absurd (hA2 b h) (Nat.not_le.mpr hbl)
  refine lv_aload_n hx hb d_La_law_281 rfl (lv_at hl 2 rfl) ?_
  obtain ⟨nf2, tk2, ct2, wd2, wp2, cz2, gv2, sp2, r2, hC, hR⟩ := b_given (l := l) (G := G) hW hM 
  obtain ⟨fs1, he1⟩ := cw_mem hW M9
  obtain ⟨rm1, hr1, hr2, hr3, hr4, hC⟩ := hC H.size (allSl H)
  refine q_backP (X := []) (wi := []) (wr := []) (pl := W9 ++ M9) (wo := fun _ => []) (pl1 := fun (u : va_W × Nat × Int32) => u.1 ++ M9) S hA [] [] rfl rfl (by decide) (by decide) (va_runV (As := []) (rest := []) ⟨hx, hb, C.2.2.1, C.2.2.2.1, C.2.2.2.2.1⟩ (cg_as (wi := []) M9 hC) (k_virt (n := 0) C wc_PB_given rfl rfl wz_PB wm_La_47 wn_PB_given ws_PB_given (by decide +kernel) ⟨(show rm1.frames + 1 ≤ 2048 by omega), (show 8 + (_ + 11) + rm1.locals ≤ 84000 by omega)⟩) (pr_nowVGP K S [] (by decide) rfl he1 rfl) rfl rfl hl.1 rfl (lv_room (Nat.le_of_ble_eq_true rfl)) d_La_law_282 ⟨(show cells + rm1.cells ≤ 600000 by omega), (show slots + rm1.slots ≤ 7302250 by omega)⟩) (fun u1 H locs hw1 S => ?_)
  obtain ⟨hW1, hp1, hrP⟩ := hw1
  have S : Sw G A s.heap H locs ([] ++ (u1.1 ++ M9)) := S
  show W p l e _ s m _ below meth c H locs _ _ _ (F0 m 285 ls [.int u1.2.2])
  refine lv_pop hx hb d_La_law_285 rfl ?_
  refine lv_aload_n hx hb d_La_law_286 rfl (lv_at hl 1 rfl) ?_
  obtain ⟨fs2, he2⟩ := rw_mem hM u1.1
  obtain ⟨rm2, hg1, hg2, hg3, hg4, hR⟩ := hR H.size (allSl H)
  refine q_backP (X := []) (wi := []) (wr := []) (pl := u1.1 ++ M9) (wo := fun _ => []) (pl1 := fun (u : va_W × Int32) => u1.1 ++ u.1) S hA [] [] rfl rfl (by decide) (by decide) (va_runV (As := []) (rest := []) ⟨hx, hb, C.2.2.1, C.2.2.2.1, C.2.2.2.2.1⟩ (cg_sa (wi := []) u1.1 hR) (k_virt (n := 0) C wc_Mo_given hg3 hg4 wz_Mo wm_La_50 wn_Mo_given ws_Mo_given (by decide +kernel) ⟨(show rm2.frames + 1 ≤ 2048 by omega), (show 8 + (_ + 11) + rm2.locals ≤ 84000 by omega)⟩) (pr_nowVGP K S [] (by decide) rfl he2 rfl) rfl rfl hl.1 rfl (lv_room (Nat.le_of_ble_eq_true rfl)) d_La_law_287 ⟨(show cells + (p9 - u1.2.1) + 0 ≤ 600000 by omega), (show slots + 2 * (p9 - u1.2.1) + 0 ≤ 7302250 by omega)⟩) (fun u2 H locs hw2 S => ?_)
  obtain ⟨hM1, hrM⟩ := hw2
  have S : Sw G A s.heap H locs ([] ++ (u1.1 ++ u2.1)) := S
  show W p l e _ s m _ below meth c H locs _ _ _ (F0 m 290 ls [.int u2.2])
  refine lv_pop hx hb d_La_law_290 rfl ?_
  refine lv_goto (tgt := 469) hx hb d_La_law_291 (by decide) ?_
  exact next _ _ _ _ _ _ _ _ _ _ _ _ _ _ _ ls hW1 hM1 (by show cells + (p9 - u1.2.1) + 0 + u1.2.1 ≤ 368979; omega) (by show slots + 2 * (p9 - u1.2.1) + 0 + 2 * u1.2.1 ≤ 1141464; omega) S hl
set_option maxRecDepth 100000 in
set_option maxHeartbeats 4000000 in
theorem law_c8 {p : Program} {l : Launch} {e : Env} {s : State} {m : MethodId} {below : List Frame} {meth : Method} {c : Code} {G : va_G} {k : Nat → ClassId} {b L : Nat} {xs : Nat → Int32} {A : Nat → Prop} (C : Cx p s m #[Value.ref b] meth c code "PotentialBenchLaw" 4 ret meth.name) (K : Kn G k s) (hX : va_X b L xs s s.heap) (hbl : b < s.heap.size) (hA : ∀ q, s.heap.size ≤ q → A q) (hA2 : ∀ q, A q → s.heap.size ≤ q) {pb mo nf : Nat} {tk ct : Nat → Nat} {wd : Nat → Int32} {wp : Int32} {cz9 : Int64} {gv9 : Int32} {sp9 : Nat} {p9 : Nat} {W9 M9 : va_W} {H : Heap} {locs : List Loc} {cells slots : Nat} (hW : cwO k pb nf tk ct wd wp cz9 gv9 sp9 p9 W9) (hM : rwO k mo nf tk ct wd wp cz9 gv9 sp9 M9) (hc : cells + p9 ≤ 368979) (hs : slots + 2 * p9 ≤ 1141464) (S : Sw G A s.heap H locs ([] ++ (W9 ++ M9))) (hL : L ≤ 3072) {t : Nat} (ht : 6 * t + 6 ≤ L) (ls : Array Slot) (hl : lv_has ls 4 [(3, .int (nI (6 * t))), (2, .ref mo), (1, .ref pb), (0, .ref b)]) (next : lwN p l e s m below meth c G k b A pb mo t) : W p l e room_1 s m #[Value.ref b] below meth c H locs cells slots (lw_Z below #[Value.ref b] s) (F0 m 294 ls []) := by
  have hx := C.1
  have hb := C.2.1
  have hbA : ¬ A b := fun h => absurd (hA2 b h) (Nat.not_le.mpr hbl)
  refine lv_aload_n hx hb d_La_law_294 rfl (lv_at hl 2 rfl) ?_
  obtain ⟨nf2, tk2, ct2, wd2, wp2, cz2, gv2, sp2, r2, hC, hR⟩ := b_steps (l := l) (G := G) hW hM 
  obtain ⟨fs1, he1⟩ := cw_mem hW M9
  obtain ⟨rm1, hr1, hr2, hr3, hr4, hC⟩ := hC H.size (allSl H)
  refine q_backP (X := []) (wi := []) (wr := []) (pl := W9 ++ M9) (wo := fun _ => []) (pl1 := fun (u : va_W × Nat × Int32) => u.1 ++ M9) S hA [] [] rfl rfl (by decide) (by decide) (va_runV (As := []) (rest := []) ⟨hx, hb, C.2.2.1, C.2.2.2.1, C.2.2.2.2.1⟩ (cg_as (wi := []) M9 hC) (k_virt (n := 0) C wc_PB_steps rfl rfl wz_PB wm_La_51 wn_PB_steps ws_PB_steps (by decide +kernel) ⟨(show rm1.frames + 1 ≤ 2048 by omega), (show 8 + (_ + 11) + rm1.locals ≤ 84000 by omega)⟩) (pr_nowVGP K S [] (by decide) rfl he1 rfl) rfl rfl hl.1 rfl (lv_room (Nat.le_of_ble_eq_true rfl)) d_La_law_295 ⟨(show cells + rm1.cells ≤ 600000 by omega), (show slots + rm1.slots ≤ 7302250 by omega)⟩) (fun u1 H locs hw1 S => ?_)
  obtain ⟨hW1, hp1, hrP⟩ := hw1
  have S : Sw G A s.heap H locs ([] ++ (u1.1 ++ M9)) := S
  show W p l e _ s m _ below meth c H locs _ _ _ (F0 m 298 ls [.int u1.2.2])
  refine lv_pop hx hb d_La_law_298 rfl ?_
  refine lv_aload_n hx hb d_La_law_299 rfl (lv_at hl 1 rfl) ?_
  obtain ⟨fs2, he2⟩ := rw_mem hM u1.1
  obtain ⟨rm2, hg1, hg2, hg3, hg4, hR⟩ := hR H.size (allSl H)
  refine q_backP (X := []) (wi := []) (wr := []) (pl := u1.1 ++ M9) (wo := fun _ => []) (pl1 := fun (u : va_W × Int32) => u1.1 ++ u.1) S hA [] [] rfl rfl (by decide) (by decide) (va_runV (As := []) (rest := []) ⟨hx, hb, C.2.2.1, C.2.2.2.1, C.2.2.2.2.1⟩ (cg_sa (wi := []) u1.1 hR) (k_virt (n := 0) C wc_Mo_steps hg3 hg4 wz_Mo wm_La_54 wn_Mo_steps ws_Mo_steps (by decide +kernel) ⟨(show rm2.frames + 1 ≤ 2048 by omega), (show 8 + (_ + 11) + rm2.locals ≤ 84000 by omega)⟩) (pr_nowVGP K S [] (by decide) rfl he2 rfl) rfl rfl hl.1 rfl (lv_room (Nat.le_of_ble_eq_true rfl)) d_La_law_300 ⟨(show cells + (p9 - u1.2.1) + 0 ≤ 600000 by omega), (show slots + 2 * (p9 - u1.2.1) + 0 ≤ 7302250 by omega)⟩) (fun u2 H locs hw2 S => ?_)
  obtain ⟨hM1, hrM⟩ := hw2
  have S : Sw G A s.heap H locs ([] ++ (u1.1 ++ u2.1)) := S
  show W p l e _ s m _ below meth c H locs _ _ _ (F0 m 303 ls [.int u2.2])
  refine lv_pop hx hb d_La_law_303 rfl ?_
  refine lv_goto (tgt := 469) hx hb d_La_law_304 (by decide) ?_
  exact next _ _ _ _ _ _ _ _ _ _ _ _ _ _ _ ls hW1 hM1 (by show cells + (p9 - u1.2.1) + 0 + u1.2.1 ≤ 368979; omega) (by show slots + 2 * (p9 - u1.2.1) + 0 + 2 * u1.2.1 ≤ 1141464; omega) S hl
set_option maxRecDepth 100000 in
set_option maxHeartbeats 4000000 in
theorem law_c9 {p : Program} {l : Launch} {e : Env} {s : State} {m : MethodId} {below : List Frame} {meth : Method} {c : Code} {G : va_G} {k : Nat → ClassId} {b L : Nat} {xs : Nat → Int32} {A : Nat → Prop} (C : Cx p s m #[Value.ref b] meth c code "PotentialBenchLaw" 4 ret meth.name) (K : Kn G k s) (hX : va_X b L xs s s.heap) (hbl : b < s.heap.size) (hA : ∀ q, s.heap.size ≤ q → A q) (hA2 : ∀ q, A q → s.heap.size ≤ q) {pb mo nf : Nat} {tk ct : Nat → Nat} {wd : Nat → Int32} {wp : Int32} {cz9 : Int64} {gv9 : Int32} {sp9 : Nat} {p9 : Nat} {W9 M9 : va_W} {H : Heap} {locs : List Loc} {cells slots : Nat} (hW : cwO k pb nf tk ct wd wp cz9 gv9 sp9 p9 W9) (hM : rwO k mo nf tk ct wd wp cz9 gv9 sp9 M9) (hc : cells + p9 ≤ 368979) (hs : slots + 2 * p9 ≤ 1141464) (S : Sw G A s.heap H locs ([] ++ (W9 ++ M9))) (hL : L ≤ 3072) {t : Nat} (ht : 6 * t + 6 ≤ L) (ls : Array Slot) (hl : lv_has ls 4 [(3, .int (nI (6 * t))), (2, .ref mo), (1, .ref pb), (0, .ref b)]) (next : lwN p l e s m below meth c G k b A pb mo t) : W p l e room_1 s m #[Value.ref b] below meth c H locs cells slots (lw_Z below #[Value.ref b] s) (F0 m 307 ls []) := by
  have hx := C.1
  have hb := C.2.1
  have hbA : ¬ A b := fun h => absurd (hA2 b h) (Nat.not_le.mpr hbl)
  refine lv_aload_n hx hb d_La_law_307 rfl (lv_at hl 2 rfl) ?_
  refine lv_aload_n hx hb d_La_law_308 rfl (lv_at hl 3 rfl) ?_
  refine lv_iload_n hx hb d_La_law_309 rfl (lv_at hl 0 rfl) ?_
  refine lv_iconst (v := 1) hx hb d_La_law_310 (by decide) ?_
  refine z_iadd (v := nI (6 * t + 1)) hx hb d_La_law_311 (nI_add (6 * t) 1) ?_
  refine va_sld hx hb hX hbl hbA S.2.2 (i := nI (6 * t + 1)) (vp_in_nI (by omega) (by omega)) d_La_law_312 ?_
  obtain ⟨hC, hR⟩ := b_bound (l := l) (G := G) hW hM (xs (nI (6 * t + 1)).toNatClampNeg)
  obtain ⟨fs1, he1⟩ := cw_mem hW M9
  obtain ⟨rm1, hr1, hr2, hr3, hr4, hC⟩ := hC H.size (allSl H)
  refine q_backP (X := []) (wi := []) (wr := []) (pl := W9 ++ M9) (wo := fun _ => []) (pl1 := fun (u : va_W × Nat × Int32) => u.1 ++ M9) S hA [] [] rfl rfl (by decide) (by decide) (va_runV (As := [.int (xs (nI (6 * t + 1)).toNatClampNeg)]) (rest := []) ⟨hx, hb, C.2.2.1, C.2.2.2.1, C.2.2.2.2.1⟩ (cg_as (wi := []) M9 hC) (k_virt (n := 1) C wc_PB_bound rfl rfl wz_PB wm_La_55 wn_PB_bound ws_PB_bound (by decide +kernel) ⟨(show rm1.frames + 1 ≤ 2048 by omega), (show 8 + (_ + 11) + rm1.locals ≤ 84000 by omega)⟩) (pr_nowVGP K S [] (by decide) rfl he1 rfl) rfl rfl hl.1 rfl (lv_room (Nat.le_of_ble_eq_true rfl)) d_La_law_313 ⟨(show cells + rm1.cells ≤ 600000 by omega), (show slots + rm1.slots ≤ 7302250 by omega)⟩) (fun u1 H locs hw1 S => ?_)
  obtain ⟨hW1, hp1⟩ := hw1
  have S : Sw G A s.heap H locs ([] ++ (u1.1 ++ M9)) := S
  show W p l e _ s m _ below meth c H locs _ _ _ (F0 m 316 ls [.int u1.2.2])
  refine lv_pop hx hb d_La_law_316 rfl ?_
  refine lv_aload_n hx hb d_La_law_317 rfl (lv_at hl 1 rfl) ?_
  refine lv_aload_n hx hb d_La_law_318 rfl (lv_at hl 3 rfl) ?_
  refine lv_iload_n hx hb d_La_law_319 rfl (lv_at hl 0 rfl) ?_
  refine lv_iconst (v := 1) hx hb d_La_law_320 (by decide) ?_
  refine z_iadd (v := nI (6 * t + 1)) hx hb d_La_law_321 (nI_add (6 * t) 1) ?_
  refine va_sld hx hb hX hbl hbA S.2.2 (i := nI (6 * t + 1)) (vp_in_nI (by omega) (by omega)) d_La_law_322 ?_
  obtain ⟨fs2, he2⟩ := rw_mem hM u1.1
  obtain ⟨rm2, hg1, hg2, hg3, hg4, hR⟩ := hR H.size (allSl H)
  refine q_backP (X := []) (wi := []) (wr := []) (pl := u1.1 ++ M9) (wo := fun _ => []) (pl1 := fun (u : va_W × Int32) => u1.1 ++ u.1) S hA [] [] rfl rfl (by decide) (by decide) (va_runV (As := [.int (xs (nI (6 * t + 1)).toNatClampNeg)]) (rest := []) ⟨hx, hb, C.2.2.1, C.2.2.2.1, C.2.2.2.2.1⟩ (cg_sa (wi := []) u1.1 hR) (k_virt (n := 1) C wc_Mo_bound hg3 hg4 wz_Mo wm_La_58 wn_Mo_bound ws_Mo_bound (by decide +kernel) ⟨(show rm2.frames + 1 ≤ 2048 by omega), (show 8 + (_ + 11) + rm2.locals ≤ 84000 by omega)⟩) (pr_nowVGP K S [] (by decide) rfl he2 rfl) rfl rfl hl.1 rfl (lv_room (Nat.le_of_ble_eq_true rfl)) d_La_law_323 ⟨(show cells + (p9 - u1.2.1) + 0 ≤ 600000 by omega), (show slots + 2 * (p9 - u1.2.1) + 0 ≤ 7302250 by omega)⟩) (fun u2 H locs hw2 S => ?_)
  obtain ⟨hM1, hrM⟩ := hw2
  have S : Sw G A s.heap H locs ([] ++ (u1.1 ++ u2.1)) := S
  show W p l e _ s m _ below meth c H locs _ _ _ (F0 m 326 ls [.int u2.2])
  refine lv_pop hx hb d_La_law_326 rfl ?_
  refine lv_goto (tgt := 469) hx hb d_La_law_327 (by decide) ?_
  exact next _ _ _ _ _ _ _ _ _ _ _ _ _ _ _ ls hW1 hM1 (by show cells + (p9 - u1.2.1) + 0 + u1.2.1 ≤ 368979; omega) (by show slots + 2 * (p9 - u1.2.1) + 0 + 2 * u1.2.1 ≤ 1141464; omega) S hl
set_option maxRecDepth 100000 in
set_option maxHeartbeats 4000000 in
theorem law_c10 {p : Program} {l : Launch} {e : Env} {s : State} {m : MethodId} {below : List Frame} {meth : Method} {c : Code} {G : va_G} {k : Nat → ClassId} {b L : Nat} {xs : Nat → Int32} {A : Nat → Prop} (C : Cx p s m #[Value.ref b] meth c code "PotentialBenchLaw" 4 ret meth.name) (K : Kn G k s) (hX : va_X b L xs s s.heap) (hbl : b < s.heap.size) (hA : ∀ q, s.heap.size ≤ q → A q) (hA2 : ∀ q, A q → s.heap.size ≤ q) {pb mo nf : Nat} {tk ct : Nat → Nat} {wd : Nat → Int32} {wp : Int32} {cz9 : Int64} {gv9 : Int32} {sp9 : Nat} {p9 : Nat} {W9 M9 : va_W} {H : Heap} {locs : List Loc} {cells slots : Nat} (hW : cwO k pb nf tk ct wd wp cz9 gv9 sp9 p9 W9) (hM : rwO k mo nf tk ct wd wp cz9 gv9 sp9 M9) (hc : cells + p9 ≤ 368979) (hs : slots + 2 * p9 ≤ 1141464) (S : Sw G A s.heap H locs ([] ++ (W9 ++ M9))) (hL : L ≤ 3072) {t : Nat} (ht : 6 * t + 6 ≤ L) (ls : Array Slot) (hl : lv_has ls 4 [(3, .int (nI (6 * t))), (2, .ref mo), (1, .ref pb), (0, .ref b)]) (next : lwN p l e s m below meth c G k b A pb mo t) : W p l e room_1 s m #[Value.ref b] below meth c H locs cells slots (lw_Z below #[Value.ref b] s) (F0 m 330 ls []) := by
  have hx := C.1
  have hb := C.2.1
  have hbA : ¬ A b := fun h => absurd (hA2 b h) (Nat.not_le.mpr hbl)
  refine lv_aload_n hx hb d_La_law_330 rfl (lv_at hl 2 rfl) ?_
  refine lv_aload_n hx hb d_La_law_331 rfl (lv_at hl 3 rfl) ?_
  refine lv_iload_n hx hb d_La_law_332 rfl (lv_at hl 0 rfl) ?_
  refine lv_iconst (v := 1) hx hb d_La_law_333 (by decide) ?_
  refine z_iadd (v := nI (6 * t + 1)) hx hb d_La_law_334 (nI_add (6 * t) 1) ?_
  refine va_sld hx hb hX hbl hbA S.2.2 (i := nI (6 * t + 1)) (vp_in_nI (by omega) (by omega)) d_La_law_335 ?_
  obtain ⟨hC, hR⟩ := b_told (l := l) (G := G) hW hM (xs (nI (6 * t + 1)).toNatClampNeg)
  obtain ⟨fs1, he1⟩ := cw_mem hW M9
  obtain ⟨rm1, hr1, hr2, hr3, hr4, hC⟩ := hC H.size (allSl H)
  refine q_backP (X := []) (wi := []) (wr := []) (pl := W9 ++ M9) (wo := fun _ => []) (pl1 := fun (u : va_W × Nat × Int32) => u.1 ++ M9) S hA [] [] rfl rfl (by decide) (by decide) (va_runV (As := [.int (xs (nI (6 * t + 1)).toNatClampNeg)]) (rest := []) ⟨hx, hb, C.2.2.1, C.2.2.2.1, C.2.2.2.2.1⟩ (cg_as (wi := []) M9 hC) (k_virt (n := 1) C wc_PB_told rfl rfl wz_PB wm_La_59 wn_PB_told ws_PB_told (by decide +kernel) ⟨(show rm1.frames + 1 ≤ 2048 by omega), (show 8 + (_ + 11) + rm1.locals ≤ 84000 by omega)⟩) (pr_nowVGP K S [] (by decide) rfl he1 rfl) rfl rfl hl.1 rfl (lv_room (Nat.le_of_ble_eq_true rfl)) d_La_law_336 ⟨(show cells + rm1.cells ≤ 600000 by omega), (show slots + rm1.slots ≤ 7302250 by omega)⟩) (fun u1 H locs hw1 S => ?_)
  obtain ⟨hW1, hp1⟩ := hw1
  have S : Sw G A s.heap H locs ([] ++ (u1.1 ++ M9)) := S
  show W p l e _ s m _ below meth c H locs _ _ _ (F0 m 339 ls [.int u1.2.2])
  refine lv_pop hx hb d_La_law_339 rfl ?_
  refine lv_aload_n hx hb d_La_law_340 rfl (lv_at hl 1 rfl) ?_
  refine lv_aload_n hx hb d_La_law_341 rfl (lv_at hl 3 rfl) ?_
  refine lv_iload_n hx hb d_La_law_342 rfl (lv_at hl 0 rfl) ?_
  refine lv_iconst (v := 1) hx hb d_La_law_343 (by decide) ?_
  refine z_iadd (v := nI (6 * t + 1)) hx hb d_La_law_344 (nI_add (6 * t) 1) ?_
  refine va_sld hx hb hX hbl hbA S.2.2 (i := nI (6 * t + 1)) (vp_in_nI (by omega) (by omega)) d_La_law_345 ?_
  obtain ⟨fs2, he2⟩ := rw_mem hM u1.1
  obtain ⟨rm2, hg1, hg2, hg3, hg4, hR⟩ := hR H.size (allSl H)
  refine q_backP (X := []) (wi := []) (wr := []) (pl := u1.1 ++ M9) (wo := fun _ => []) (pl1 := fun (u : va_W × Int32) => u1.1 ++ u.1) S hA [] [] rfl rfl (by decide) (by decide) (va_runV (As := [.int (xs (nI (6 * t + 1)).toNatClampNeg)]) (rest := []) ⟨hx, hb, C.2.2.1, C.2.2.2.1, C.2.2.2.2.1⟩ (cg_sa (wi := []) u1.1 hR) (k_virt (n := 1) C wc_Mo_told hg3 hg4 wz_Mo wm_La_62 wn_Mo_told ws_Mo_told (by decide +kernel) ⟨(show rm2.frames + 1 ≤ 2048 by omega), (show 8 + (_ + 11) + rm2.locals ≤ 84000 by omega)⟩) (pr_nowVGP K S [] (by decide) rfl he2 rfl) rfl rfl hl.1 rfl (lv_room (Nat.le_of_ble_eq_true rfl)) d_La_law_346 ⟨(show cells + (p9 - u1.2.1) + 0 ≤ 600000 by omega), (show slots + 2 * (p9 - u1.2.1) + 0 ≤ 7302250 by omega)⟩) (fun u2 H locs hw2 S => ?_)
  obtain ⟨hM1, hrM⟩ := hw2
  have S : Sw G A s.heap H locs ([] ++ (u1.1 ++ u2.1)) := S
  show W p l e _ s m _ below meth c H locs _ _ _ (F0 m 349 ls [.int u2.2])
  refine lv_pop hx hb d_La_law_349 rfl ?_
  refine lv_goto (tgt := 469) hx hb d_La_law_350 (by decide) ?_
  exact next _ _ _ _ _ _ _ _ _ _ _ _ _ _ _ ls hW1 hM1 (by show cells + (p9 - u1.2.1) + 0 + u1.2.1 ≤ 368979; omega) (by show slots + 2 * (p9 - u1.2.1) + 0 + 2 * u1.2.1 ≤ 1141464; omega) S hl
set_option maxRecDepth 100000 in
set_option maxHeartbeats 4000000 in
theorem law_c11 {p : Program} {l : Launch} {e : Env} {s : State} {m : MethodId} {below : List Frame} {meth : Method} {c : Code} {G : va_G} {k : Nat → ClassId} {b L : Nat} {xs : Nat → Int32} {A : Nat → Prop} (C : Cx p s m #[Value.ref b] meth c code "PotentialBenchLaw" 4 ret meth.name) (K : Kn G k s) (hX : va_X b L xs s s.heap) (hbl : b < s.heap.size) (hA : ∀ q, s.heap.size ≤ q → A q) (hA2 : ∀ q, A q → s.heap.size ≤ q) {pb mo nf : Nat} {tk ct : Nat → Nat} {wd : Nat → Int32} {wp : Int32} {cz9 : Int64} {gv9 : Int32} {sp9 : Nat} {p9 : Nat} {W9 M9 : va_W} {H : Heap} {locs : List Loc} {cells slots : Nat} (hW : cwO k pb nf tk ct wd wp cz9 gv9 sp9 p9 W9) (hM : rwO k mo nf tk ct wd wp cz9 gv9 sp9 M9) (hc : cells + p9 ≤ 368979) (hs : slots + 2 * p9 ≤ 1141464) (S : Sw G A s.heap H locs ([] ++ (W9 ++ M9))) (hL : L ≤ 3072) {t : Nat} (ht : 6 * t + 6 ≤ L) (ls : Array Slot) (hl : lv_has ls 4 [(3, .int (nI (6 * t))), (2, .ref mo), (1, .ref pb), (0, .ref b)]) (next : lwN p l e s m below meth c G k b A pb mo t) : W p l e room_1 s m #[Value.ref b] below meth c H locs cells slots (lw_Z below #[Value.ref b] s) (F0 m 353 ls []) := by
  have hx := C.1
  have hb := C.2.1
  have hbA : ¬ A b := fun h => absurd (hA2 b h) (Nat.not_le.mpr hbl)
  refine lv_aload_n hx hb d_La_law_353 rfl (lv_at hl 2 rfl) ?_
  refine lv_aload_n hx hb d_La_law_354 rfl (lv_at hl 3 rfl) ?_
  refine lv_iload_n hx hb d_La_law_355 rfl (lv_at hl 0 rfl) ?_
  refine lv_iconst (v := 1) hx hb d_La_law_356 (by decide) ?_
  refine z_iadd (v := nI (6 * t + 1)) hx hb d_La_law_357 (nI_add (6 * t) 1) ?_
  refine va_sld hx hb hX hbl hbA S.2.2 (i := nI (6 * t + 1)) (vp_in_nI (by omega) (by omega)) d_La_law_358 ?_
  refine lv_aload_n hx hb d_La_law_359 rfl (lv_at hl 3 rfl) ?_
  refine lv_iload_n hx hb d_La_law_360 rfl (lv_at hl 0 rfl) ?_
  refine lv_iconst (v := 2) hx hb d_La_law_361 (by decide) ?_
  refine z_iadd (v := nI (6 * t + 2)) hx hb d_La_law_362 (nI_add (6 * t) 2) ?_
  refine va_sld hx hb hX hbl hbA S.2.2 (i := nI (6 * t + 2)) (vp_in_nI (by omega) (by omega)) d_La_law_363 ?_
  obtain ⟨hC, hR⟩ := b_scaled (l := l) (G := G) hW hM (xs (nI (6 * t + 1)).toNatClampNeg) (xs (nI (6 * t + 2)).toNatClampNeg)
  obtain ⟨fs1, he1⟩ := cw_mem hW M9
  obtain ⟨rm1, hr1, hr2, hr3, hr4, hC⟩ := hC H.size (allSl H)
  refine q_backP (X := []) (wi := []) (wr := []) (pl := W9 ++ M9) (wo := fun _ => []) (pl1 := fun (u : va_W × Nat × Int64) => u.1 ++ M9) S hA [] [] rfl rfl (by decide) (by decide) (va_runV (As := [.int (xs (nI (6 * t + 1)).toNatClampNeg), .int (xs (nI (6 * t + 2)).toNatClampNeg)]) (rest := []) ⟨hx, hb, C.2.2.1, C.2.2.2.1, C.2.2.2.2.1⟩ (cg_as (wi := []) M9 hC) (k_virt (n := 2) C wc_PB_scaled rfl rfl wz_PB wm_La_63 wn_PB_scaled ws_PB_scaled (by decide +kernel) ⟨(show rm1.frames + 1 ≤ 2048 by omega), (show 8 + (_ + 11) + rm1.locals ≤ 84000 by omega)⟩) (pr_nowVGP K S [] (by decide) rfl he1 rfl) rfl rfl hl.1 rfl (lv_room (Nat.le_of_ble_eq_true rfl)) d_La_law_364 ⟨(show cells + rm1.cells ≤ 600000 by omega), (show slots + rm1.slots ≤ 7302250 by omega)⟩) (fun u1 H locs hw1 S => ?_)
  obtain ⟨hW1, hp1⟩ := hw1
  have S : Sw G A s.heap H locs ([] ++ (u1.1 ++ M9)) := S
  show W p l e _ s m _ below meth c H locs _ _ _ (F0 m 367 ls [.long u1.2.2])
  refine lv_pop2_2 hx hb d_La_law_367 rfl ?_
  refine lv_aload_n hx hb d_La_law_368 rfl (lv_at hl 1 rfl) ?_
  refine lv_aload_n hx hb d_La_law_369 rfl (lv_at hl 3 rfl) ?_
  refine lv_iload_n hx hb d_La_law_370 rfl (lv_at hl 0 rfl) ?_
  refine lv_iconst (v := 1) hx hb d_La_law_371 (by decide) ?_
  refine z_iadd (v := nI (6 * t + 1)) hx hb d_La_law_372 (nI_add (6 * t) 1) ?_
  refine va_sld hx hb hX hbl hbA S.2.2 (i := nI (6 * t + 1)) (vp_in_nI (by omega) (by omega)) d_La_law_373 ?_
  refine lv_aload_n hx hb d_La_law_374 rfl (lv_at hl 3 rfl) ?_
  refine lv_iload_n hx hb d_La_law_375 rfl (lv_at hl 0 rfl) ?_
  refine lv_iconst (v := 2) hx hb d_La_law_376 (by decide) ?_
  refine z_iadd (v := nI (6 * t + 2)) hx hb d_La_law_377 (nI_add (6 * t) 2) ?_
  refine va_sld hx hb hX hbl hbA S.2.2 (i := nI (6 * t + 2)) (vp_in_nI (by omega) (by omega)) d_La_law_378 ?_
  obtain ⟨fs2, he2⟩ := rw_mem hM u1.1
  obtain ⟨rm2, hg1, hg2, hg3, hg4, hR⟩ := hR H.size (allSl H)
  refine q_backP (X := []) (wi := []) (wr := []) (pl := u1.1 ++ M9) (wo := fun _ => []) (pl1 := fun (u : va_W × Int64) => u1.1 ++ u.1) S hA [] [] rfl rfl (by decide) (by decide) (va_runV (As := [.int (xs (nI (6 * t + 1)).toNatClampNeg), .int (xs (nI (6 * t + 2)).toNatClampNeg)]) (rest := []) ⟨hx, hb, C.2.2.1, C.2.2.2.1, C.2.2.2.2.1⟩ (cg_sa (wi := []) u1.1 hR) (k_virt (n := 2) C wc_Mo_scaled hg3 hg4 wz_Mo wm_La_67 wn_Mo_scaled ws_Mo_scaled (by decide +kernel) ⟨(show rm2.frames + 1 ≤ 2048 by omega), (show 8 + (_ + 11) + rm2.locals ≤ 84000 by omega)⟩) (pr_nowVGP K S [] (by decide) rfl he2 rfl) rfl rfl hl.1 rfl (lv_room (Nat.le_of_ble_eq_true rfl)) d_La_law_379 ⟨(show cells + (p9 - u1.2.1) + 0 ≤ 600000 by omega), (show slots + 2 * (p9 - u1.2.1) + 0 ≤ 7302250 by omega)⟩) (fun u2 H locs hw2 S => ?_)
  obtain ⟨hM1, hrM⟩ := hw2
  have S : Sw G A s.heap H locs ([] ++ (u1.1 ++ u2.1)) := S
  show W p l e _ s m _ below meth c H locs _ _ _ (F0 m 382 ls [.long u2.2])
  refine lv_pop2_2 hx hb d_La_law_382 rfl ?_
  refine lv_goto (tgt := 469) hx hb d_La_law_383 (by decide) ?_
  exact next _ _ _ _ _ _ _ _ _ _ _ _ _ _ _ ls hW1 hM1 (by show cells + (p9 - u1.2.1) + 0 + u1.2.1 ≤ 368979; omega) (by show slots + 2 * (p9 - u1.2.1) + 0 + 2 * u1.2.1 ≤ 1141464; omega) S hl
set_option maxRecDepth 100000 in
set_option maxHeartbeats 4000000 in
theorem law_c12 {p : Program} {l : Launch} {e : Env} {s : State} {m : MethodId} {below : List Frame} {meth : Method} {c : Code} {G : va_G} {k : Nat → ClassId} {b L : Nat} {xs : Nat → Int32} {A : Nat → Prop} (C : Cx p s m #[Value.ref b] meth c code "PotentialBenchLaw" 4 ret meth.name) (K : Kn G k s) (hX : va_X b L xs s s.heap) (hbl : b < s.heap.size) (hA : ∀ q, s.heap.size ≤ q → A q) (hA2 : ∀ q, A q → s.heap.size ≤ q) {pb mo nf : Nat} {tk ct : Nat → Nat} {wd : Nat → Int32} {wp : Int32} {cz9 : Int64} {gv9 : Int32} {sp9 : Nat} {p9 : Nat} {W9 M9 : va_W} {H : Heap} {locs : List Loc} {cells slots : Nat} (hW : cwO k pb nf tk ct wd wp cz9 gv9 sp9 p9 W9) (hM : rwO k mo nf tk ct wd wp cz9 gv9 sp9 M9) (hc : cells + p9 ≤ 368979) (hs : slots + 2 * p9 ≤ 1141464) (S : Sw G A s.heap H locs ([] ++ (W9 ++ M9))) (hL : L ≤ 3072) {t : Nat} (ht : 6 * t + 6 ≤ L) (ls : Array Slot) (hl : lv_has ls 4 [(3, .int (nI (6 * t))), (2, .ref mo), (1, .ref pb), (0, .ref b)]) (next : lwN p l e s m below meth c G k b A pb mo t) : W p l e room_1 s m #[Value.ref b] below meth c H locs cells slots (lw_Z below #[Value.ref b] s) (F0 m 386 ls []) := by
  have hx := C.1
  have hb := C.2.1
  have hbA : ¬ A b := fun h => absurd (hA2 b h) (Nat.not_le.mpr hbl)
  refine lv_aload_n hx hb d_La_law_386 rfl (lv_at hl 2 rfl) ?_
  refine lv_aload_n hx hb d_La_law_387 rfl (lv_at hl 3 rfl) ?_
  refine lv_iload_n hx hb d_La_law_388 rfl (lv_at hl 0 rfl) ?_
  refine lv_iconst (v := 1) hx hb d_La_law_389 (by decide) ?_
  refine z_iadd (v := nI (6 * t + 1)) hx hb d_La_law_390 (nI_add (6 * t) 1) ?_
  refine va_sld hx hb hX hbl hbA S.2.2 (i := nI (6 * t + 1)) (vp_in_nI (by omega) (by omega)) d_La_law_391 ?_
  refine lv_aload_n hx hb d_La_law_392 rfl (lv_at hl 3 rfl) ?_
  refine lv_iload_n hx hb d_La_law_393 rfl (lv_at hl 0 rfl) ?_
  refine lv_iconst (v := 2) hx hb d_La_law_394 (by decide) ?_
  refine z_iadd (v := nI (6 * t + 2)) hx hb d_La_law_395 (nI_add (6 * t) 2) ?_
  refine va_sld hx hb hX hbl hbA S.2.2 (i := nI (6 * t + 2)) (vp_in_nI (by omega) (by omega)) d_La_law_396 ?_
  refine lv_aload_n hx hb d_La_law_397 rfl (lv_at hl 3 rfl) ?_
  refine lv_iload_n hx hb d_La_law_398 rfl (lv_at hl 0 rfl) ?_
  refine lv_iconst (v := 3) hx hb d_La_law_399 (by decide) ?_
  refine z_iadd (v := nI (6 * t + 3)) hx hb d_La_law_400 (nI_add (6 * t) 3) ?_
  refine va_sld hx hb hX hbl hbA S.2.2 (i := nI (6 * t + 3)) (vp_in_nI (by omega) (by omega)) d_La_law_401 ?_
  refine lv_aload_n hx hb d_La_law_402 rfl (lv_at hl 3 rfl) ?_
  refine lv_iload_n hx hb d_La_law_403 rfl (lv_at hl 0 rfl) ?_
  refine lv_iconst (v := 4) hx hb d_La_law_404 (by decide) ?_
  refine z_iadd (v := nI (6 * t + 4)) hx hb d_La_law_405 (nI_add (6 * t) 4) ?_
  refine va_sld hx hb hX hbl hbA S.2.2 (i := nI (6 * t + 4)) (vp_in_nI (by omega) (by omega)) d_La_law_406 ?_
  refine lv_i2l (v := _) hx hb d_La_law_407 rfl ?_
  refine lv_topl (fun n1 _ => ?_)
  refine lv_bipush (v := 32) hx hb d_La_law_408 (by decide) ?_
  refine lv_lshl (v := _) hx hb d_La_law_410 rfl ?_
  refine lv_topl (fun n2 _ => ?_)
  refine lv_aload_n hx hb d_La_law_411 rfl (lv_at hl 3 rfl) ?_
  refine lv_iload_n hx hb d_La_law_412 rfl (lv_at hl 0 rfl) ?_
  refine lv_iconst (v := 5) hx hb d_La_law_413 (by decide) ?_
  refine z_iadd (v := nI (6 * t + 5)) hx hb d_La_law_414 (nI_add (6 * t) 5) ?_
  refine va_sld hx hb hX hbl hbA S.2.2 (i := nI (6 * t + 5)) (vp_in_nI (by omega) (by omega)) d_La_law_415 ?_
  refine lv_i2l (v := _) hx hb d_La_law_416 rfl ?_
  refine lv_topl (fun n3 _ => ?_)
  refine lv_ldc2 (v := 4294967295) hx hb C.2.2.2.1 (C.2.2.2.2.1 _ wk_La_68) d_La_law_417 ?_
  refine lv_land hx hb d_La_law_420 ?_
  refine lv_topl (fun n4 _ => ?_)
  refine lv_lor hx hb d_La_law_421 ?_
  refine lv_topl (fun n5 _ => ?_)
  have hCR := fun (xm : Int64) => b_covers (l := l) (G := G) hW hM (xs (nI (6 * t + 1)).toNatClampNeg) (xs (nI (6 * t + 2)).toNatClampNeg) (xs (nI (6 * t + 3)).toNatClampNeg) n5 xm
  obtain ⟨hC, -⟩ := hCR 0
  obtain ⟨fs1, he1⟩ := cw_mem hW M9
  obtain ⟨rm1, hr1, hr2, hr3, hr4, hC⟩ := hC H.size (allSl H)
  refine q_backP (X := []) (wi := []) (wr := []) (pl := W9 ++ M9) (wo := fun _ => []) (pl1 := fun (u : va_W × Nat × Int32) => u.1 ++ M9) S hA [] [] rfl rfl (by decide) (by decide) (va_runV (As := [.int (xs (nI (6 * t + 1)).toNatClampNeg), .int (xs (nI (6 * t + 2)).toNatClampNeg), .int (xs (nI (6 * t + 3)).toNatClampNeg), .long n5]) (rest := []) ⟨hx, hb, C.2.2.1, C.2.2.2.1, C.2.2.2.2.1⟩ (cg_as (wi := []) M9 hC) (k_virt (n := 4) C wc_PB_covers rfl rfl wz_PB wm_La_70 wn_PB_covers ws_PB_covers (by decide +kernel) ⟨(show rm1.frames + 1 ≤ 2048 by omega), (show 8 + (_ + 11) + rm1.locals ≤ 84000 by omega)⟩) (pr_nowVGP K S [] (by decide) rfl he1 rfl) rfl rfl hl.1 rfl (lv_room (Nat.le_of_ble_eq_true rfl)) d_La_law_422 ⟨(show cells + rm1.cells ≤ 600000 by omega), (show slots + rm1.slots ≤ 7302250 by omega)⟩) (fun u1 H locs hw1 S => ?_)
  obtain ⟨hW1, hp1⟩ := hw1
  have S : Sw G A s.heap H locs ([] ++ (u1.1 ++ M9)) := S
  show W p l e _ s m _ below meth c H locs _ _ _ (F0 m 425 ls [.int u1.2.2])
  refine lv_pop hx hb d_La_law_425 rfl ?_
  refine lv_aload_n hx hb d_La_law_426 rfl (lv_at hl 1 rfl) ?_
  refine lv_aload_n hx hb d_La_law_427 rfl (lv_at hl 3 rfl) ?_
  refine lv_iload_n hx hb d_La_law_428 rfl (lv_at hl 0 rfl) ?_
  refine lv_iconst (v := 1) hx hb d_La_law_429 (by decide) ?_
  refine z_iadd (v := nI (6 * t + 1)) hx hb d_La_law_430 (nI_add (6 * t) 1) ?_
  refine va_sld hx hb hX hbl hbA S.2.2 (i := nI (6 * t + 1)) (vp_in_nI (by omega) (by omega)) d_La_law_431 ?_
  refine lv_aload_n hx hb d_La_law_432 rfl (lv_at hl 3 rfl) ?_
  refine lv_iload_n hx hb d_La_law_433 rfl (lv_at hl 0 rfl) ?_
  refine lv_iconst (v := 2) hx hb d_La_law_434 (by decide) ?_
  refine z_iadd (v := nI (6 * t + 2)) hx hb d_La_law_435 (nI_add (6 * t) 2) ?_
  refine va_sld hx hb hX hbl hbA S.2.2 (i := nI (6 * t + 2)) (vp_in_nI (by omega) (by omega)) d_La_law_436 ?_
  refine lv_aload_n hx hb d_La_law_437 rfl (lv_at hl 3 rfl) ?_
  refine lv_iload_n hx hb d_La_law_438 rfl (lv_at hl 0 rfl) ?_
  refine lv_iconst (v := 3) hx hb d_La_law_439 (by decide) ?_
  refine z_iadd (v := nI (6 * t + 3)) hx hb d_La_law_440 (nI_add (6 * t) 3) ?_
  refine va_sld hx hb hX hbl hbA S.2.2 (i := nI (6 * t + 3)) (vp_in_nI (by omega) (by omega)) d_La_law_441 ?_
  refine lv_aload_n hx hb d_La_law_442 rfl (lv_at hl 3 rfl) ?_
  refine lv_iload_n hx hb d_La_law_443 rfl (lv_at hl 0 rfl) ?_
  refine lv_iconst (v := 4) hx hb d_La_law_444 (by decide) ?_
  refine z_iadd (v := nI (6 * t + 4)) hx hb d_La_law_445 (nI_add (6 * t) 4) ?_
  refine va_sld hx hb hX hbl hbA S.2.2 (i := nI (6 * t + 4)) (vp_in_nI (by omega) (by omega)) d_La_law_446 ?_
  refine lv_i2l (v := _) hx hb d_La_law_447 rfl ?_
  refine lv_topl (fun n6 _ => ?_)
  refine lv_bipush (v := 32) hx hb d_La_law_448 (by decide) ?_
  refine lv_lshl (v := _) hx hb d_La_law_450 rfl ?_
  refine lv_topl (fun n7 _ => ?_)
  refine lv_aload_n hx hb d_La_law_451 rfl (lv_at hl 3 rfl) ?_
  refine lv_iload_n hx hb d_La_law_452 rfl (lv_at hl 0 rfl) ?_
  refine lv_iconst (v := 5) hx hb d_La_law_453 (by decide) ?_
  refine z_iadd (v := nI (6 * t + 5)) hx hb d_La_law_454 (nI_add (6 * t) 5) ?_
  refine va_sld hx hb hX hbl hbA S.2.2 (i := nI (6 * t + 5)) (vp_in_nI (by omega) (by omega)) d_La_law_455 ?_
  refine lv_i2l (v := _) hx hb d_La_law_456 rfl ?_
  refine lv_topl (fun n8 _ => ?_)
  refine lv_ldc2 (v := 4294967295) hx hb C.2.2.2.1 (C.2.2.2.2.1 _ wk_La_68) d_La_law_457 ?_
  refine lv_land hx hb d_La_law_460 ?_
  refine lv_topl (fun n9 _ => ?_)
  refine lv_lor hx hb d_La_law_461 ?_
  refine lv_topl (fun n10 _ => ?_)
  obtain ⟨-, hR⟩ := hCR n10
  obtain ⟨fs2, he2⟩ := rw_mem hM u1.1
  obtain ⟨rm2, hg1, hg2, hg3, hg4, hR⟩ := hR H.size (allSl H)
  refine q_backP (X := []) (wi := []) (wr := []) (pl := u1.1 ++ M9) (wo := fun _ => []) (pl1 := fun (u : va_W × Int32) => u1.1 ++ u.1) S hA [] [] rfl rfl (by decide) (by decide) (va_runV (As := [.int (xs (nI (6 * t + 1)).toNatClampNeg), .int (xs (nI (6 * t + 2)).toNatClampNeg), .int (xs (nI (6 * t + 3)).toNatClampNeg), .long n10]) (rest := []) ⟨hx, hb, C.2.2.1, C.2.2.2.1, C.2.2.2.2.1⟩ (cg_sa (wi := []) u1.1 hR) (k_virt (n := 4) C wc_Mo_covers hg3 hg4 wz_Mo wm_La_74 wn_Mo_covers ws_Mo_covers (by decide +kernel) ⟨(show rm2.frames + 1 ≤ 2048 by omega), (show 8 + (_ + 11) + rm2.locals ≤ 84000 by omega)⟩) (pr_nowVGP K S [] (by decide) rfl he2 rfl) rfl rfl hl.1 rfl (lv_room (Nat.le_of_ble_eq_true rfl)) d_La_law_462 ⟨(show cells + (p9 - u1.2.1) + 0 ≤ 600000 by omega), (show slots + 2 * (p9 - u1.2.1) + 0 ≤ 7302250 by omega)⟩) (fun u2 H locs hw2 S => ?_)
  obtain ⟨hM1, hrM⟩ := hw2
  have S : Sw G A s.heap H locs ([] ++ (u1.1 ++ u2.1)) := S
  show W p l e _ s m _ below meth c H locs _ _ _ (F0 m 465 ls [.int u2.2])
  refine lv_pop hx hb d_La_law_465 rfl ?_
  refine lv_goto (tgt := 469) hx hb d_La_law_466 (by decide) ?_
  exact next _ _ _ _ _ _ _ _ _ _ _ _ _ _ _ ls hW1 hM1 (by show cells + (p9 - u1.2.1) + 0 + u1.2.1 ≤ 368979; omega) (by show slots + 2 * (p9 - u1.2.1) + 0 + 2 * u1.2.1 ≤ 1141464; omega) S hl
