/-- arrays and numbers that come back -/
def uz (l : List (Nat → Nat)) : Nat → Nat → Nat := fun i => l.getD i (fun _ => 0)
def fz (a b c d e : Int32) : Nat → Int32 := fun j => if j = 0 then a else if j = 1 then b else if j = 2 then c else if j = 3 then d else e
theorem sv_z (b c : Nat) (g : Nat → Nat) : sv b (vl 65536 g 0) = sv c (vl 65536 g 0) := by
  unfold sv
  show (if b = 1 then - ((0 : Nat) : Int) else ((0 : Nat) : Int)) = (if c = 1 then - ((0 : Nat) : Int) else ((0 : Nat) : Int))
  split <;> split <;> rfl
theorem d_Mo_swapOne_0 : decode c_Mo_swapOne 0 = .ok (.aload_n 0, 1) := by decide +kernel
theorem d_Mo_swapOne_1 : decode c_Mo_swapOne 1 = .ok (.getfield 86, 3) := by decide +kernel
theorem d_Mo_swapOne_4 : decode c_Mo_swapOne 4 = .ok (.iload_n 1, 1) := by decide +kernel
theorem d_Mo_swapOne_5 : decode c_Mo_swapOne 5 = .ok (.iaload, 1) := by decide +kernel
theorem d_Mo_swapOne_6 : decode c_Mo_swapOne 6 = .ok (.aload_n 0, 1) := by decide +kernel
theorem d_Mo_swapOne_7 : decode c_Mo_swapOne 7 = .ok (.getfield 86, 3) := by decide +kernel
theorem d_Mo_swapOne_10 : decode c_Mo_swapOne 10 = .ok (.sipush 3997, 3) := by decide +kernel
theorem d_Mo_swapOne_13 : decode c_Mo_swapOne 13 = .ok (.iaload, 1) := by decide +kernel
theorem d_Mo_swapOne_14 : decode c_Mo_swapOne 14 = .ok (.if_icmp .le 12, 3) := by decide +kernel
theorem d_Mo_swapOne_17 : decode c_Mo_swapOne 17 = .ok (.aload_n 0, 1) := by decide +kernel
theorem d_Mo_swapOne_18 : decode c_Mo_swapOne 18 = .ok (.getfield 86, 3) := by decide +kernel
theorem d_Mo_swapOne_21 : decode c_Mo_swapOne 21 = .ok (.iload_n 1, 1) := by decide +kernel
theorem d_Mo_swapOne_22 : decode c_Mo_swapOne 22 = .ok (.iaload, 1) := by decide +kernel
theorem d_Mo_swapOne_23 : decode c_Mo_swapOne 23 = .ok (.goto 11, 3) := by decide +kernel
theorem d_Mo_swapOne_26 : decode c_Mo_swapOne 26 = .ok (.aload_n 0, 1) := by decide +kernel
theorem d_Mo_swapOne_27 : decode c_Mo_swapOne 27 = .ok (.getfield 86, 3) := by decide +kernel
theorem d_Mo_swapOne_30 : decode c_Mo_swapOne 30 = .ok (.sipush 3997, 3) := by decide +kernel
theorem d_Mo_swapOne_33 : decode c_Mo_swapOne 33 = .ok (.iaload, 1) := by decide +kernel
theorem d_Mo_swapOne_34 : decode c_Mo_swapOne 34 = .ok (.istore_n 3, 1) := by decide +kernel
theorem d_Mo_swapOne_35 : decode c_Mo_swapOne 35 = .ok (.iconst 0, 1) := by decide +kernel
theorem d_Mo_swapOne_36 : decode c_Mo_swapOne 36 = .ok (.istore 4, 2) := by decide +kernel
theorem d_Mo_swapOne_38 : decode c_Mo_swapOne 38 = .ok (.iload 4, 2) := by decide +kernel
theorem d_Mo_swapOne_40 : decode c_Mo_swapOne 40 = .ok (.iload_n 3, 1) := by decide +kernel
theorem d_Mo_swapOne_41 : decode c_Mo_swapOne 41 = .ok (.if_icmp .ge 59, 3) := by decide +kernel
theorem d_Mo_swapOne_44 : decode c_Mo_swapOne 44 = .ok (.aload_n 0, 1) := by decide +kernel
theorem d_Mo_swapOne_45 : decode c_Mo_swapOne 45 = .ok (.getfield 83, 3) := by decide +kernel
theorem d_Mo_swapOne_48 : decode c_Mo_swapOne 48 = .ok (.iload_n 1, 1) := by decide +kernel
theorem d_Mo_swapOne_49 : decode c_Mo_swapOne 49 = .ok (.bipush 80, 2) := by decide +kernel
theorem d_Mo_swapOne_51 : decode c_Mo_swapOne 51 = .ok (.imul, 1) := by decide +kernel
theorem d_Mo_swapOne_52 : decode c_Mo_swapOne 52 = .ok (.iload 4, 2) := by decide +kernel
theorem d_Mo_swapOne_54 : decode c_Mo_swapOne 54 = .ok (.iadd, 1) := by decide +kernel
theorem d_Mo_swapOne_55 : decode c_Mo_swapOne 55 = .ok (.iaload, 1) := by decide +kernel
theorem d_Mo_swapOne_56 : decode c_Mo_swapOne 56 = .ok (.istore 5, 2) := by decide +kernel
theorem d_Mo_swapOne_58 : decode c_Mo_swapOne 58 = .ok (.aload_n 0, 1) := by decide +kernel
theorem d_Mo_swapOne_59 : decode c_Mo_swapOne 59 = .ok (.getfield 83, 3) := by decide +kernel
theorem d_Mo_swapOne_62 : decode c_Mo_swapOne 62 = .ok (.iload_n 1, 1) := by decide +kernel
theorem d_Mo_swapOne_63 : decode c_Mo_swapOne 63 = .ok (.bipush 80, 2) := by decide +kernel
theorem d_Mo_swapOne_65 : decode c_Mo_swapOne 65 = .ok (.imul, 1) := by decide +kernel
theorem d_Mo_swapOne_66 : decode c_Mo_swapOne 66 = .ok (.iload 4, 2) := by decide +kernel
theorem d_Mo_swapOne_68 : decode c_Mo_swapOne 68 = .ok (.iadd, 1) := by decide +kernel
theorem d_Mo_swapOne_69 : decode c_Mo_swapOne 69 = .ok (.aload_n 0, 1) := by decide +kernel
theorem d_Mo_swapOne_70 : decode c_Mo_swapOne 70 = .ok (.getfield 83, 3) := by decide +kernel
theorem d_Mo_swapOne_73 : decode c_Mo_swapOne 73 = .ok (.ldc_w 350, 3) := by decide +kernel
theorem d_Mo_swapOne_76 : decode c_Mo_swapOne 76 = .ok (.iload 4, 2) := by decide +kernel
theorem d_Mo_swapOne_78 : decode c_Mo_swapOne 78 = .ok (.iadd, 1) := by decide +kernel
theorem d_Mo_swapOne_79 : decode c_Mo_swapOne 79 = .ok (.iaload, 1) := by decide +kernel
theorem d_Mo_swapOne_80 : decode c_Mo_swapOne 80 = .ok (.iastore, 1) := by decide +kernel
theorem d_Mo_swapOne_81 : decode c_Mo_swapOne 81 = .ok (.aload_n 0, 1) := by decide +kernel
theorem d_Mo_swapOne_82 : decode c_Mo_swapOne 82 = .ok (.getfield 83, 3) := by decide +kernel
theorem d_Mo_swapOne_85 : decode c_Mo_swapOne 85 = .ok (.ldc_w 350, 3) := by decide +kernel
theorem d_Mo_swapOne_88 : decode c_Mo_swapOne 88 = .ok (.iload 4, 2) := by decide +kernel
theorem d_Mo_swapOne_90 : decode c_Mo_swapOne 90 = .ok (.iadd, 1) := by decide +kernel
theorem d_Mo_swapOne_91 : decode c_Mo_swapOne 91 = .ok (.iload 5, 2) := by decide +kernel
theorem d_Mo_swapOne_93 : decode c_Mo_swapOne 93 = .ok (.iastore, 1) := by decide +kernel
theorem d_Mo_swapOne_94 : decode c_Mo_swapOne 94 = .ok (.iinc 4 1, 3) := by decide +kernel
theorem d_Mo_swapOne_97 : decode c_Mo_swapOne 97 = .ok (.goto (-59), 3) := by decide +kernel
theorem d_Mo_swapOne_100 : decode c_Mo_swapOne 100 = .ok (.aload_n 0, 1) := by decide +kernel
theorem d_Mo_swapOne_101 : decode c_Mo_swapOne 101 = .ok (.getfield 86, 3) := by decide +kernel
theorem d_Mo_swapOne_104 : decode c_Mo_swapOne 104 = .ok (.iload_n 1, 1) := by decide +kernel
theorem d_Mo_swapOne_105 : decode c_Mo_swapOne 105 = .ok (.iaload, 1) := by decide +kernel
theorem d_Mo_swapOne_106 : decode c_Mo_swapOne 106 = .ok (.istore 4, 2) := by decide +kernel
theorem d_Mo_swapOne_108 : decode c_Mo_swapOne 108 = .ok (.aload_n 0, 1) := by decide +kernel
theorem d_Mo_swapOne_109 : decode c_Mo_swapOne 109 = .ok (.getfield 86, 3) := by decide +kernel
theorem d_Mo_swapOne_112 : decode c_Mo_swapOne 112 = .ok (.iload_n 1, 1) := by decide +kernel
theorem d_Mo_swapOne_113 : decode c_Mo_swapOne 113 = .ok (.aload_n 0, 1) := by decide +kernel
theorem d_Mo_swapOne_114 : decode c_Mo_swapOne 114 = .ok (.getfield 86, 3) := by decide +kernel
theorem d_Mo_swapOne_117 : decode c_Mo_swapOne 117 = .ok (.sipush 3997, 3) := by decide +kernel
theorem d_Mo_swapOne_120 : decode c_Mo_swapOne 120 = .ok (.iaload, 1) := by decide +kernel
theorem d_Mo_swapOne_121 : decode c_Mo_swapOne 121 = .ok (.iastore, 1) := by decide +kernel
theorem d_Mo_swapOne_122 : decode c_Mo_swapOne 122 = .ok (.aload_n 0, 1) := by decide +kernel
theorem d_Mo_swapOne_123 : decode c_Mo_swapOne 123 = .ok (.getfield 86, 3) := by decide +kernel
theorem d_Mo_swapOne_126 : decode c_Mo_swapOne 126 = .ok (.sipush 3997, 3) := by decide +kernel
theorem d_Mo_swapOne_129 : decode c_Mo_swapOne 129 = .ok (.iload 4, 2) := by decide +kernel
theorem d_Mo_swapOne_131 : decode c_Mo_swapOne 131 = .ok (.iastore, 1) := by decide +kernel
theorem d_Mo_swapOne_132 : decode c_Mo_swapOne 132 = .ok (.aload_n 0, 1) := by decide +kernel
theorem d_Mo_swapOne_133 : decode c_Mo_swapOne 133 = .ok (.getfield 89, 3) := by decide +kernel
theorem d_Mo_swapOne_136 : decode c_Mo_swapOne 136 = .ok (.sipush 3997, 3) := by decide +kernel
theorem d_Mo_swapOne_139 : decode c_Mo_swapOne 139 = .ok (.iconst 0, 1) := by decide +kernel
theorem d_Mo_swapOne_140 : decode c_Mo_swapOne 140 = .ok (.bastore, 1) := by decide +kernel
theorem d_Mo_swapOne_141 : decode c_Mo_swapOne 141 = .ok (.aload_n 0, 1) := by decide +kernel
theorem d_Mo_swapOne_142 : decode c_Mo_swapOne 142 = .ok (.getfield 89, 3) := by decide +kernel
theorem d_Mo_swapOne_145 : decode c_Mo_swapOne 145 = .ok (.iload_n 1, 1) := by decide +kernel
theorem d_Mo_swapOne_146 : decode c_Mo_swapOne 146 = .ok (.iload_n 2, 1) := by decide +kernel
theorem d_Mo_swapOne_147 : decode c_Mo_swapOne 147 = .ok (.ifCond .ne 7, 3) := by decide +kernel
theorem d_Mo_swapOne_150 : decode c_Mo_swapOne 150 = .ok (.iconst 1, 1) := by decide +kernel
theorem d_Mo_swapOne_151 : decode c_Mo_swapOne 151 = .ok (.goto 4, 3) := by decide +kernel
theorem d_Mo_swapOne_154 : decode c_Mo_swapOne 154 = .ok (.iconst 0, 1) := by decide +kernel
theorem d_Mo_swapOne_155 : decode c_Mo_swapOne 155 = .ok (.bastore, 1) := by decide +kernel
theorem d_Mo_swapOne_156 : decode c_Mo_swapOne 156 = .ok (.return_, 1) := by decide +kernel
set_option maxRecDepth 100000 in
set_option maxHeartbeats 16000000 in
/-- swapOne(c0, tu) -/
theorem g_Mo_swapOne (l : Launch) (G : va_G) (k : Nat → ClassId) (h0 : Nat) (s0 : Nat) (c0 : Nat) (tu : Nat) (ma : Nat → Nat) (iv : Nat → Int32) (co : Int64) (dg : Nat → Nat) (sz : Nat → Nat) (bl : Nat → Nat) (T : Nat → Int) (hT : tbO dg sz bl T) (kc : c0 < 3997) (h1 : 0 < T 3997) (htu : tu ≤ 1) : CV l y_Mo_swapOne c_Mo_swapOne 6 { frames := 0, cells := 0, slots := 0, locals := 0 } [.ref h0, .int (nI c0), .int (nI tu)] G k s0 [(h0, .inr (8, moL ma iv co)), ((ma 21), .inl (k 0, 319840, .inl (fun i => nI (dg i)))), ((ma 22), .inl (k 0, 3998, .inl (fun i => nI (sz i)))), ((ma 23), .inl (k 2, 3998, .inl (fun i => nI (bl i))))] (fun (u : (Nat → Nat) × (Nat → Nat) × (Nat → Nat)) => tbO u.1 u.2.1 u.2.2 (va_up (va_up T c0 (if tu = 1 then T 3997 else - T 3997)) 3997 ((T c0).natAbs : Int))) (fun u => [(h0, .inr (8, moL ma iv co)), ((ma 21), .inl (k 0, 319840, .inl (fun i => nI (u.1 i)))), ((ma 22), .inl (k 0, 3998, .inl (fun i => nI (u.2.1 i)))), ((ma 23), .inl (k 2, 3998, .inl (fun i => nI (u.2.2 i))))]) 0 0 := by
  refine met_start (by decide) (Nat.le_of_ble_eq_true rfl) ?_
  intro p e s m below meth c C K hA hsz S ls hl
  generalize va_A [(h0, .inr (8, moL ma iv co)), ((ma 21), .inl (k 0, 319840, .inl (fun i => nI (dg i)))), ((ma 22), .inl (k 0, 3998, .inl (fun i => nI (sz i)))), ((ma 23), .inl (k 2, 3998, .inl (fun i => nI (bl i))))] s0 = A at hA S ⊢
  have hx := C.1
  have hb := C.2.1
  have hl : lv_has ls 6 [(0, .ref h0), (1, .int (nI c0)), (2, .int (nI tu))] := hl
  have q1 := (hT.2 c0 (by omega)).1
  have q2 := (hT.2 3997 (by omega)).1
  refine lv_aload_n hx hb d_Mo_swapOne_0 rfl (lv_at hl 0 rfl) ?_
  refine r_get C K S 0 rfl rfl clOk_Mo 42 (by decide) wf_Mo_86 (v := .ref (ma 22)) rfl d_Mo_swapOne_1 ?_
  refine lv_iload_n hx hb d_Mo_swapOne_4 rfl (lv_at hl 1 rfl) ?_
  refine r_iald C K S 2 rfl (i := nI c0) (show vp_in (nI c0) _ from vp_in_nI (n := c0) (by omega) (by decide)) (v := nI (sz c0)) (by rw [nI_clamp (by omega)]) d_Mo_swapOne_5 ?_
  refine lv_aload_n hx hb d_Mo_swapOne_6 rfl (lv_at hl 0 rfl) ?_
  refine r_get C K S 0 rfl rfl clOk_Mo 42 (by decide) wf_Mo_86 (v := .ref (ma 22)) rfl d_Mo_swapOne_7 ?_
  refine lv_sipush (v := 3997) hx hb d_Mo_swapOne_10 (by decide) ?_
  refine r_iald C K S 2 rfl (i := 3997) (by unfold vp_in; decide) (v := nI (sz 3997)) (by rw [show (3997 : Int32).toNatClampNeg = 3997 from by decide]) d_Mo_swapOne_13 ?_
  have cont : ∀ (mm : Nat), (sz c0 ≤ mm) → (sz 3997 ≤ mm) → (mm ≤ 80) → ∀ (H : Heap) (locs : List Loc), Sw G A s.heap H locs [(h0, .inr (8, moL ma iv co)), ((ma 21), .inl (k 0, 319840, .inl (fun i => nI (dg i)))), ((ma 22), .inl (k 0, 3998, .inl (fun i => nI (sz i)))), ((ma 23), .inl (k 2, 3998, .inl (fun i => nI (bl i))))] → ∀ ls : Array Slot, lv_has ls 6 [(0, .ref h0), (1, .int (nI c0)), (2, .int (nI tu))] → W p l e { frames := 0, cells := 0, slots := 0, locals := 0 } s m [Value.ref h0, Value.int (nI c0), Value.int (nI tu)].toArray below meth c H locs 0 0 (MQ below (va_Qv (fun (u : (Nat → Nat) × (Nat → Nat) × (Nat → Nat)) => tbO u.1 u.2.1 u.2.2 (va_up (va_up T c0 (if tu = 1 then T 3997 else - T 3997)) 3997 ((T c0).natAbs : Int))) (Po G k A (fun u => [(h0, .inr (8, moL ma iv co)), ((ma 21), .inl (k 0, 319840, .inl (fun i => nI (u.1 i)))), ((ma 22), .inl (k 0, 3998, .inl (fun i => nI (u.2.1 i)))), ((ma 23), .inl (k 2, 3998, .inl (fun i => nI (u.2.2 i))))])) A) [Value.ref h0, Value.int (nI c0), Value.int (nI tu)].toArray s 0 0 A) (F0 m 34 ls [.int (nI mm)]) := by
    intro mm hm1 hm2 hm3 H locs S ls hl
    refine lv_istore_n (lv' := [(3, .int (nI mm)), (0, .ref h0), (1, .int (nI c0)), (2, .int (nI tu))]) hx hb d_Mo_swapOne_34 rfl hl (by decide) rfl (fun ls hl => ?_)
    refine lv_iconst (v := 0) hx hb d_Mo_swapOne_35 (by decide) ?_
    refine lv_istore (lv' := [(4, .int 0), (3, .int (nI mm)), (0, .ref h0), (1, .int (nI c0)), (2, .int (nI tu))]) hx hb d_Mo_swapOne_36 hl (by decide) rfl (fun ls hl => ?_)
    have S : Sw G A s.heap H locs [(h0, .inr (8, moL ma iv co)), ((ma 21), .inl (k 0, 319840, .inl (fun i => nI (swD dg c0 0 i)))), ((ma 22), .inl (k 0, 3998, .inl (fun i => nI (sz i)))), ((ma 23), .inl (k 2, 3998, .inl (fun i => nI (bl i))))] := by rw [swD_0]; exact S
    have lp : ∀ d9, ∀ (t : Nat), (mm - t) < d9 → (t ≤ mm) → ∀ (H : Heap) (locs : List Loc), Sw G A s.heap H locs [(h0, .inr (8, moL ma iv co)), ((ma 21), .inl (k 0, 319840, .inl (fun i => nI (swD dg c0 t i)))), ((ma 22), .inl (k 0, 3998, .inl (fun i => nI (sz i)))), ((ma 23), .inl (k 2, 3998, .inl (fun i => nI (bl i))))] → ∀ ls : Array Slot, lv_has ls 6 [(4, .int (nI t)), (3, .int (nI mm)), (0, .ref h0), (1, .int (nI c0)), (2, .int (nI tu))] → W p l e { frames := 0, cells := 0, slots := 0, locals := 0 } s m [Value.ref h0, Value.int (nI c0), Value.int (nI tu)].toArray below meth c H locs 0 0 (MQ below (va_Qv (fun (u : (Nat → Nat) × (Nat → Nat) × (Nat → Nat)) => tbO u.1 u.2.1 u.2.2 (va_up (va_up T c0 (if tu = 1 then T 3997 else - T 3997)) 3997 ((T c0).natAbs : Int))) (Po G k A (fun u => [(h0, .inr (8, moL ma iv co)), ((ma 21), .inl (k 0, 319840, .inl (fun i => nI (u.1 i)))), ((ma 22), .inl (k 0, 3998, .inl (fun i => nI (u.2.1 i)))), ((ma 23), .inl (k 2, 3998, .inl (fun i => nI (u.2.2 i))))])) A) [Value.ref h0, Value.int (nI c0), Value.int (nI tu)].toArray s 0 0 A) (F0 m 38 ls []) := by
      intro d9
      induction d9 with
      | zero => intro t hm; exact absurd hm (Nat.not_lt_zero _)
      | succ d9 ih =>
        intro t hm ht H locs S ls hl
        refine lv_iload hx hb d_Mo_swapOne_38 (lv_at hl 0 rfl) ?_
        refine lv_iload_n hx hb d_Mo_swapOne_40 rfl (lv_at hl 1 rfl) ?_
        refine z_icmp_ge (a := t) (b := mm) (tgt := 100) hx hb d_Mo_swapOne_41 (by decide) (by omega) (by omega) (fun hc1 => ?_) (fun hc1 => ?_)
        · have htm : t = mm := by omega
          refine lv_aload_n hx hb d_Mo_swapOne_100 rfl (lv_at hl 2 rfl) ?_
          refine r_get C K S 0 rfl rfl clOk_Mo 42 (by decide) wf_Mo_86 (v := .ref (ma 22)) rfl d_Mo_swapOne_101 ?_
          refine lv_iload_n hx hb d_Mo_swapOne_104 rfl (lv_at hl 3 rfl) ?_
          refine r_iald C K S 2 rfl (i := nI c0) (show vp_in (nI c0) _ from vp_in_nI (n := c0) (by omega) (by decide)) (v := nI (sz c0)) (by rw [nI_clamp (by omega)]) d_Mo_swapOne_105 ?_
          refine lv_istore (lv' := [(4, .int (nI (sz c0))), (3, .int (nI mm)), (0, .ref h0), (1, .int (nI c0)), (2, .int (nI tu))]) hx hb d_Mo_swapOne_106 hl (by decide) rfl (fun ls hl => ?_)
          refine lv_aload_n hx hb d_Mo_swapOne_108 rfl (lv_at hl 2 rfl) ?_
          refine r_get C K S 0 rfl rfl clOk_Mo 42 (by decide) wf_Mo_86 (v := .ref (ma 22)) rfl d_Mo_swapOne_109 ?_
          refine lv_iload_n hx hb d_Mo_swapOne_112 rfl (lv_at hl 3 rfl) ?_
          refine lv_aload_n hx hb d_Mo_swapOne_113 rfl (lv_at hl 2 rfl) ?_
          refine r_get C K S 0 rfl rfl clOk_Mo 42 (by decide) wf_Mo_86 (v := .ref (ma 22)) rfl d_Mo_swapOne_114 ?_
          refine lv_sipush (v := 3997) hx hb d_Mo_swapOne_117 (by decide) ?_
          refine r_iald C K S 2 rfl (i := 3997) (by unfold vp_in; decide) (v := nI (sz 3997)) (by rw [show (3997 : Int32).toNatClampNeg = 3997 from by decide]) d_Mo_swapOne_120 ?_
          refine r_iast C K S 2 rfl (i := nI c0) (x := nI (sz 3997)) (show vp_in (nI c0) _ from vp_in_nI (n := c0) (by omega) (by decide)) (f' := fun i => nI (va_up sz c0 (sz 3997) i)) (ws' := [(h0, .inr (8, moL ma iv co)), ((ma 21), .inl (k 0, 319840, .inl (fun i => nI (swD dg c0 t i)))), ((ma 22), .inl (k 0, 3998, .inl (fun i => nI (va_up sz c0 (sz 3997) i)))), ((ma 23), .inl (k 2, 3998, .inl (fun i => nI (bl i))))]) (show upd _ (nI c0 : Int32).toNatClampNeg (nI (sz 3997)) = _ from upd_nI sz (j := c0) (by omega) (sz 3997)) rfl d_Mo_swapOne_121 (fun H locs S => ?_)
          refine lv_aload_n hx hb d_Mo_swapOne_122 rfl (lv_at hl 2 rfl) ?_
          refine r_get C K S 0 rfl rfl clOk_Mo 42 (by decide) wf_Mo_86 (v := .ref (ma 22)) rfl d_Mo_swapOne_123 ?_
          refine lv_sipush (v := 3997) hx hb d_Mo_swapOne_126 (by decide) ?_
          refine lv_iload hx hb d_Mo_swapOne_129 (lv_at hl 0 rfl) ?_
          refine r_iast C K S 2 rfl (i := 3997) (x := nI (sz c0)) (by unfold vp_in; decide) (f' := fun i => nI (va_up (va_up sz c0 (sz 3997)) 3997 (sz c0) i)) (ws' := [(h0, .inr (8, moL ma iv co)), ((ma 21), .inl (k 0, 319840, .inl (fun i => nI (swD dg c0 t i)))), ((ma 22), .inl (k 0, 3998, .inl (fun i => nI (va_up (va_up sz c0 (sz 3997)) 3997 (sz c0) i)))), ((ma 23), .inl (k 2, 3998, .inl (fun i => nI (bl i))))]) (show upd _ (3997 : Int32).toNatClampNeg (nI (sz c0)) = _ from upd_nI (va_up sz c0 (sz 3997)) (j := 3997) (by omega) (sz c0)) rfl d_Mo_swapOne_131 (fun H locs S => ?_)
          refine lv_aload_n hx hb d_Mo_swapOne_132 rfl (lv_at hl 2 rfl) ?_
          refine r_get C K S 0 rfl rfl clOk_Mo 43 (by decide) wf_Mo_89 (v := .ref (ma 23)) rfl d_Mo_swapOne_133 ?_
          refine lv_sipush (v := 3997) hx hb d_Mo_swapOne_136 (by decide) ?_
          refine lv_iconst (v := 0) hx hb d_Mo_swapOne_139 (by decide) ?_
          refine r_zast C K S 3 rfl (i := 3997) (x := 0) (by unfold vp_in; decide) (f' := fun i => nI (va_up bl 3997 0 i)) (ws' := [(h0, .inr (8, moL ma iv co)), ((ma 21), .inl (k 0, 319840, .inl (fun i => nI (swD dg c0 t i)))), ((ma 22), .inl (k 0, 3998, .inl (fun i => nI (va_up (va_up sz c0 (sz 3997)) 3997 (sz c0) i)))), ((ma 23), .inl (k 2, 3998, .inl (fun i => nI (va_up bl 3997 0 i))))]) (show upd _ (3997 : Int32).toNatClampNeg (vp_nar .boolean 0) = _ from upd_Z bl (j := 3997) (v := 0) (by omega) (by omega)) rfl d_Mo_swapOne_140 (fun H locs S => ?_)
          refine lv_aload_n hx hb d_Mo_swapOne_141 rfl (lv_at hl 2 rfl) ?_
          refine r_get C K S 0 rfl rfl clOk_Mo 43 (by decide) wf_Mo_89 (v := .ref (ma 23)) rfl d_Mo_swapOne_142 ?_
          refine lv_iload_n hx hb d_Mo_swapOne_145 rfl (lv_at hl 3 rfl) ?_
          refine lv_iload_n hx hb d_Mo_swapOne_146 rfl (lv_at hl 4 rfl) ?_
          refine z_if_ne (a := tu) (tgt := 154) hx hb d_Mo_swapOne_147 (by decide) (by omega) (fun hc2 => ?_) (fun hc2 => ?_)
          · refine lv_iconst (v := 0) hx hb d_Mo_swapOne_154 (by decide) ?_
            refine r_zast C K S 3 rfl (i := nI c0) (x := 0) (show vp_in (nI c0) _ from vp_in_nI (n := c0) (by omega) (by decide)) (f' := fun i => nI (va_up (va_up bl 3997 0) c0 0 i)) (ws' := [(h0, .inr (8, moL ma iv co)), ((ma 21), .inl (k 0, 319840, .inl (fun i => nI (swD dg c0 t i)))), ((ma 22), .inl (k 0, 3998, .inl (fun i => nI (va_up (va_up sz c0 (sz 3997)) 3997 (sz c0) i)))), ((ma 23), .inl (k 2, 3998, .inl (fun i => nI (va_up (va_up bl 3997 0) c0 0 i))))]) (show upd _ (nI c0 : Int32).toNatClampNeg (vp_nar .boolean 0) = _ from upd_Z (va_up bl 3997 0) (j := c0) (v := 0) (by omega) (by omega)) rfl d_Mo_swapOne_155 (fun H locs S => ?_)
            have h9 := tbO_swap (p := c0) (m := t) (b := 0) hT kc h1 (by omega) (by omega) (by omega) (by decide)
            rw [if_pos rfl] at h9
            exact r_vret C K (swD dg c0 t, va_up (va_up sz c0 (sz 3997)) 3997 (sz c0), va_up (va_up bl 3997 0) c0 0) (by show tbO _ _ _ (va_up (va_up T c0 (if tu = 1 then T 3997 else - T 3997)) 3997 _); rw [if_pos (show tu = 1 by omega)]; exact h9) (S.sub [0, 1, 2, 3] (by decide) rfl) d_Mo_swapOne_156 (Nat.le_of_ble_eq_true rfl) (Nat.le_of_ble_eq_true rfl)
          · refine lv_iconst (v := 1) hx hb d_Mo_swapOne_150 (by decide) ?_
            refine lv_goto (tgt := 155) hx hb d_Mo_swapOne_151 (by decide) ?_
            refine r_zast C K S 3 rfl (i := nI c0) (x := 1) (show vp_in (nI c0) _ from vp_in_nI (n := c0) (by omega) (by decide)) (f' := fun i => nI (va_up (va_up bl 3997 0) c0 1 i)) (ws' := [(h0, .inr (8, moL ma iv co)), ((ma 21), .inl (k 0, 319840, .inl (fun i => nI (swD dg c0 t i)))), ((ma 22), .inl (k 0, 3998, .inl (fun i => nI (va_up (va_up sz c0 (sz 3997)) 3997 (sz c0) i)))), ((ma 23), .inl (k 2, 3998, .inl (fun i => nI (va_up (va_up bl 3997 0) c0 1 i))))]) (show upd _ (nI c0 : Int32).toNatClampNeg (vp_nar .boolean 1) = _ from upd_Z (va_up bl 3997 0) (j := c0) (v := 1) (by omega) (by omega)) rfl d_Mo_swapOne_155 (fun H locs S => ?_)
            have h9 := tbO_swap (p := c0) (m := t) (b := 1) hT kc h1 (by omega) (by omega) (by omega) (by decide)
            rw [if_neg (by decide)] at h9
            exact r_vret C K (swD dg c0 t, va_up (va_up sz c0 (sz 3997)) 3997 (sz c0), va_up (va_up bl 3997 0) c0 1) (by show tbO _ _ _ (va_up (va_up T c0 (if tu = 1 then T 3997 else - T 3997)) 3997 _); rw [if_neg (show ¬ tu = 1 by omega)]; exact h9) (S.sub [0, 1, 2, 3] (by decide) rfl) d_Mo_swapOne_156 (Nat.le_of_ble_eq_true rfl) (Nat.le_of_ble_eq_true rfl)
        · refine lv_aload_n hx hb d_Mo_swapOne_44 rfl (lv_at hl 2 rfl) ?_
          refine r_get C K S 0 rfl rfl clOk_Mo 41 (by decide) wf_Mo_83 (v := .ref (ma 21)) rfl d_Mo_swapOne_45 ?_
          refine lv_iload_n hx hb d_Mo_swapOne_48 rfl (lv_at hl 3 rfl) ?_
          refine lv_bipush (v := 80) hx hb d_Mo_swapOne_49 (by decide) ?_
          refine z_imul (x := nI c0) (y := 80) (v := nI (c0 * 80)) hx hb d_Mo_swapOne_51 (pk_mul c0 80) ?_
          refine lv_iload hx hb d_Mo_swapOne_52 (lv_at hl 0 rfl) ?_
          refine z_iadd (x := nI (c0 * 80)) (y := nI t) (v := nI (c0 * 80 + t)) hx hb d_Mo_swapOne_54 (nI_add (c0 * 80) t) ?_
          refine r_iald C K S 1 rfl (i := nI (c0 * 80 + t)) (show vp_in (nI (c0 * 80 + t)) _ from vp_in_nI (n := (c0 * 80 + t)) (by omega) (by decide)) (v := nI (swD dg c0 t (c0 * 80 + t))) (by rw [nI_clamp (by omega)]) d_Mo_swapOne_55 ?_
          refine lv_istore (lv' := [(5, .int (nI (swD dg c0 t (c0 * 80 + t)))), (4, .int (nI t)), (3, .int (nI mm)), (0, .ref h0), (1, .int (nI c0)), (2, .int (nI tu))]) hx hb d_Mo_swapOne_56 hl (by decide) rfl (fun ls hl => ?_)
          refine lv_aload_n hx hb d_Mo_swapOne_58 rfl (lv_at hl 3 rfl) ?_
          refine r_get C K S 0 rfl rfl clOk_Mo 41 (by decide) wf_Mo_83 (v := .ref (ma 21)) rfl d_Mo_swapOne_59 ?_
          refine lv_iload_n hx hb d_Mo_swapOne_62 rfl (lv_at hl 4 rfl) ?_
          refine lv_bipush (v := 80) hx hb d_Mo_swapOne_63 (by decide) ?_
          refine z_imul (x := nI c0) (y := 80) (v := nI (c0 * 80)) hx hb d_Mo_swapOne_65 (pk_mul c0 80) ?_
          refine lv_iload hx hb d_Mo_swapOne_66 (lv_at hl 1 rfl) ?_
          refine z_iadd (x := nI (c0 * 80)) (y := nI t) (v := nI (c0 * 80 + t)) hx hb d_Mo_swapOne_68 (nI_add (c0 * 80) t) ?_
          refine lv_aload_n hx hb d_Mo_swapOne_69 rfl (lv_at hl 3 rfl) ?_
          refine r_get C K S 0 rfl rfl clOk_Mo 41 (by decide) wf_Mo_83 (v := .ref (ma 21)) rfl d_Mo_swapOne_70 ?_
          refine lv_ldcw (v := 319760) hx hb C.2.2.2.1 (C.2.2.2.2.1 _ wk_Mo_350) d_Mo_swapOne_73 ?_
          refine lv_iload hx hb d_Mo_swapOne_76 (lv_at hl 1 rfl) ?_
          refine z_iadd (x := 319760) (y := nI t) (v := nI (319760 + t)) hx hb d_Mo_swapOne_78 (nI_add 319760 t) ?_
          refine r_iald C K S 1 rfl (i := nI (319760 + t)) (show vp_in (nI (319760 + t)) _ from vp_in_nI (n := (319760 + t)) (by omega) (by decide)) (v := nI (swD dg c0 t (319760 + t))) (by rw [nI_clamp (by omega)]) d_Mo_swapOne_79 ?_
          refine r_iast C K S 1 rfl (i := nI (c0 * 80 + t)) (x := nI (swD dg c0 t (319760 + t))) (show vp_in (nI (c0 * 80 + t)) _ from vp_in_nI (n := (c0 * 80 + t)) (by omega) (by decide)) (f' := fun i => nI (va_up (swD dg c0 t) (c0 * 80 + t) (swD dg c0 t (319760 + t)) i)) (ws' := [(h0, .inr (8, moL ma iv co)), ((ma 21), .inl (k 0, 319840, .inl (fun i => nI (va_up (swD dg c0 t) (c0 * 80 + t) (swD dg c0 t (319760 + t)) i)))), ((ma 22), .inl (k 0, 3998, .inl (fun i => nI (sz i)))), ((ma 23), .inl (k 2, 3998, .inl (fun i => nI (bl i))))]) (show upd _ (nI (c0 * 80 + t) : Int32).toNatClampNeg (nI (swD dg c0 t (319760 + t))) = _ from upd_nI (swD dg c0 t) (j := (c0 * 80 + t)) (by omega) (swD dg c0 t (319760 + t))) rfl d_Mo_swapOne_80 (fun H locs S => ?_)
          refine lv_aload_n hx hb d_Mo_swapOne_81 rfl (lv_at hl 3 rfl) ?_
          refine r_get C K S 0 rfl rfl clOk_Mo 41 (by decide) wf_Mo_83 (v := .ref (ma 21)) rfl d_Mo_swapOne_82 ?_
          refine lv_ldcw (v := 319760) hx hb C.2.2.2.1 (C.2.2.2.2.1 _ wk_Mo_350) d_Mo_swapOne_85 ?_
          refine lv_iload hx hb d_Mo_swapOne_88 (lv_at hl 1 rfl) ?_
          refine z_iadd (x := 319760) (y := nI t) (v := nI (319760 + t)) hx hb d_Mo_swapOne_90 (nI_add 319760 t) ?_
          refine lv_iload hx hb d_Mo_swapOne_91 (lv_at hl 0 rfl) ?_
          refine r_iast C K S 1 rfl (i := nI (319760 + t)) (x := nI (swD dg c0 t (c0 * 80 + t))) (show vp_in (nI (319760 + t)) _ from vp_in_nI (n := (319760 + t)) (by omega) (by decide)) (f' := fun i => nI (va_up (va_up (swD dg c0 t) (c0 * 80 + t) (swD dg c0 t (319760 + t))) (319760 + t) (swD dg c0 t (c0 * 80 + t)) i)) (ws' := [(h0, .inr (8, moL ma iv co)), ((ma 21), .inl (k 0, 319840, .inl (fun i => nI (va_up (va_up (swD dg c0 t) (c0 * 80 + t) (swD dg c0 t (319760 + t))) (319760 + t) (swD dg c0 t (c0 * 80 + t)) i)))), ((ma 22), .inl (k 0, 3998, .inl (fun i => nI (sz i)))), ((ma 23), .inl (k 2, 3998, .inl (fun i => nI (bl i))))]) (show upd _ (nI (319760 + t) : Int32).toNatClampNeg (nI (swD dg c0 t (c0 * 80 + t))) = _ from upd_nI (va_up (swD dg c0 t) (c0 * 80 + t) (swD dg c0 t (319760 + t))) (j := (319760 + t)) (by omega) (swD dg c0 t (c0 * 80 + t))) rfl d_Mo_swapOne_93 (fun H locs S => ?_)
          have S : Sw G A s.heap H locs [(h0, .inr (8, moL ma iv co)), ((ma 21), .inl (k 0, 319840, .inl (fun i => nI (swD dg c0 (t + 1) i)))), ((ma 22), .inl (k 0, 3998, .inl (fun i => nI (sz i)))), ((ma 23), .inl (k 2, 3998, .inl (fun i => nI (bl i))))] := by rw [swD_s (dg := dg) (p := c0) (t := t) kc (by omega)] at S; exact S
          refine lv_iinc (v := nI (t + 1)) (lv' := [(4, .int (nI (t + 1))), (5, .int (nI (swD dg c0 t (c0 * 80 + t)))), (3, .int (nI mm)), (0, .ref h0), (1, .int (nI c0)), (2, .int (nI tu))]) hx hb d_Mo_swapOne_94 hl (k := 1) rfl (show nI t + Int32.ofInt 1 = nI (t + 1) from (nI_add t 1).trans (congrArg nI (by omega))) (by decide) rfl (fun ls hl => ?_)
          refine lv_goto (tgt := 38) hx hb d_Mo_swapOne_97 (by decide) ?_
          exact ih (t + 1) (by omega) (by omega) _ _ (S.sub [0, 1, 2, 3] (by decide) rfl) ls (lv_sub hl [0, 2, 3, 4, 5] rfl)
    exact lp _ 0 (Nat.lt_succ_self _) (by omega) _ _ (S.sub [0, 1, 2, 3] (by decide) rfl) ls (lv_sub hl [0, 1, 2, 3, 4] rfl)
  refine z_icmp_le (a := (sz c0)) (b := (sz 3997)) (tgt := 26) hx hb d_Mo_swapOne_14 (by decide) (by omega) (by omega) (fun hc3 => ?_) (fun hc3 => ?_)
  · refine lv_aload_n hx hb d_Mo_swapOne_26 rfl (lv_at hl 0 rfl) ?_
    refine r_get C K S 0 rfl rfl clOk_Mo 42 (by decide) wf_Mo_86 (v := .ref (ma 22)) rfl d_Mo_swapOne_27 ?_
    refine lv_sipush (v := 3997) hx hb d_Mo_swapOne_30 (by decide) ?_
    refine r_iald C K S 2 rfl (i := 3997) (by unfold vp_in; decide) (v := nI (sz 3997)) (by rw [show (3997 : Int32).toNatClampNeg = 3997 from by decide]) d_Mo_swapOne_33 ?_
    exact cont (sz 3997) (by omega) (by omega) (by omega) _ _ (S.sub [0, 1, 2, 3] (by decide) rfl) ls (lv_sub hl [0, 1, 2] rfl)
  · refine lv_aload_n hx hb d_Mo_swapOne_17 rfl (lv_at hl 0 rfl) ?_
    refine r_get C K S 0 rfl rfl clOk_Mo 42 (by decide) wf_Mo_86 (v := .ref (ma 22)) rfl d_Mo_swapOne_18 ?_
    refine lv_iload_n hx hb d_Mo_swapOne_21 rfl (lv_at hl 1 rfl) ?_
    refine r_iald C K S 2 rfl (i := nI c0) (show vp_in (nI c0) _ from vp_in_nI (n := c0) (by omega) (by decide)) (v := nI (sz c0)) (by rw [nI_clamp (by omega)]) d_Mo_swapOne_22 ?_
    refine lv_goto (tgt := 34) hx hb d_Mo_swapOne_23 (by decide) ?_
    exact cont (sz c0) (by omega) (by omega) (by omega) _ _ (S.sub [0, 1, 2, 3] (by decide) rfl) ls (lv_sub hl [0, 1, 2] rfl)
theorem d_Mo_sum_0 : decode c_Mo_sum 0 = .ok (.aload_n 0, 1) := by decide +kernel
theorem d_Mo_sum_1 : decode c_Mo_sum 1 = .ok (.iload_n 2, 1) := by decide +kernel
theorem d_Mo_sum_2 : decode c_Mo_sum 2 = .ok (.iload_n 3, 1) := by decide +kernel
theorem d_Mo_sum_3 : decode c_Mo_sum 3 = .ok (.iload 4, 2) := by decide +kernel
theorem d_Mo_sum_5 : decode c_Mo_sum 5 = .ok (.iload 5, 2) := by decide +kernel
theorem d_Mo_sum_7 : decode c_Mo_sum 7 = .ok (.invokevirtual 351, 3) := by decide +kernel
theorem d_Mo_sum_10 : decode c_Mo_sum 10 = .ok (.iconst 0, 1) := by decide +kernel
theorem d_Mo_sum_11 : decode c_Mo_sum 11 = .ok (.istore 6, 2) := by decide +kernel
theorem d_Mo_sum_13 : decode c_Mo_sum 13 = .ok (.iload 6, 2) := by decide +kernel
theorem d_Mo_sum_15 : decode c_Mo_sum 15 = .ok (.aload_n 0, 1) := by decide +kernel
theorem d_Mo_sum_16 : decode c_Mo_sum 16 = .ok (.getfield 286, 3) := by decide +kernel
theorem d_Mo_sum_19 : decode c_Mo_sum 19 = .ok (.if_icmp .ge 28, 3) := by decide +kernel
theorem d_Mo_sum_22 : decode c_Mo_sum 22 = .ok (.aload_n 0, 1) := by decide +kernel
theorem d_Mo_sum_23 : decode c_Mo_sum 23 = .ok (.getfield 83, 3) := by decide +kernel
theorem d_Mo_sum_26 : decode c_Mo_sum 26 = .ok (.iload_n 1, 1) := by decide +kernel
theorem d_Mo_sum_27 : decode c_Mo_sum 27 = .ok (.bipush 80, 2) := by decide +kernel
theorem d_Mo_sum_29 : decode c_Mo_sum 29 = .ok (.imul, 1) := by decide +kernel
theorem d_Mo_sum_30 : decode c_Mo_sum 30 = .ok (.iload 6, 2) := by decide +kernel
theorem d_Mo_sum_32 : decode c_Mo_sum 32 = .ok (.iadd, 1) := by decide +kernel
theorem d_Mo_sum_33 : decode c_Mo_sum 33 = .ok (.aload_n 0, 1) := by decide +kernel
theorem d_Mo_sum_34 : decode c_Mo_sum 34 = .ok (.getfield 93, 3) := by decide +kernel
theorem d_Mo_sum_37 : decode c_Mo_sum 37 = .ok (.iload 6, 2) := by decide +kernel
theorem d_Mo_sum_39 : decode c_Mo_sum 39 = .ok (.iaload, 1) := by decide +kernel
theorem d_Mo_sum_40 : decode c_Mo_sum 40 = .ok (.iastore, 1) := by decide +kernel
theorem d_Mo_sum_41 : decode c_Mo_sum 41 = .ok (.iinc 6 1, 3) := by decide +kernel
theorem d_Mo_sum_44 : decode c_Mo_sum 44 = .ok (.goto (-31), 3) := by decide +kernel
theorem d_Mo_sum_47 : decode c_Mo_sum 47 = .ok (.aload_n 0, 1) := by decide +kernel
theorem d_Mo_sum_48 : decode c_Mo_sum 48 = .ok (.getfield 86, 3) := by decide +kernel
theorem d_Mo_sum_51 : decode c_Mo_sum 51 = .ok (.iload_n 1, 1) := by decide +kernel
theorem d_Mo_sum_52 : decode c_Mo_sum 52 = .ok (.aload_n 0, 1) := by decide +kernel
theorem d_Mo_sum_53 : decode c_Mo_sum 53 = .ok (.getfield 286, 3) := by decide +kernel
theorem d_Mo_sum_56 : decode c_Mo_sum 56 = .ok (.iastore, 1) := by decide +kernel
theorem d_Mo_sum_57 : decode c_Mo_sum 57 = .ok (.aload_n 0, 1) := by decide +kernel
theorem d_Mo_sum_58 : decode c_Mo_sum 58 = .ok (.getfield 89, 3) := by decide +kernel
theorem d_Mo_sum_61 : decode c_Mo_sum 61 = .ok (.iload_n 1, 1) := by decide +kernel
theorem d_Mo_sum_62 : decode c_Mo_sum 62 = .ok (.aload_n 0, 1) := by decide +kernel
theorem d_Mo_sum_63 : decode c_Mo_sum 63 = .ok (.getfield 286, 3) := by decide +kernel
theorem d_Mo_sum_66 : decode c_Mo_sum 66 = .ok (.ifCond .le 14, 3) := by decide +kernel
theorem d_Mo_sum_69 : decode c_Mo_sum 69 = .ok (.aload_n 0, 1) := by decide +kernel
theorem d_Mo_sum_70 : decode c_Mo_sum 70 = .ok (.getfield 289, 3) := by decide +kernel
theorem d_Mo_sum_73 : decode c_Mo_sum 73 = .ok (.ifCond .eq 7, 3) := by decide +kernel
theorem d_Mo_sum_76 : decode c_Mo_sum 76 = .ok (.iconst 1, 1) := by decide +kernel
theorem d_Mo_sum_77 : decode c_Mo_sum 77 = .ok (.goto 4, 3) := by decide +kernel
theorem d_Mo_sum_80 : decode c_Mo_sum 80 = .ok (.iconst 0, 1) := by decide +kernel
theorem d_Mo_sum_81 : decode c_Mo_sum 81 = .ok (.bastore, 1) := by decide +kernel
theorem d_Mo_sum_82 : decode c_Mo_sum 82 = .ok (.return_, 1) := by decide +kernel
set_option maxRecDepth 100000 in
set_option maxHeartbeats 16000000 in
/-- sum(c0, x, y, a, b) -/
theorem g_Mo_sum (l : Launch) (G : va_G) (k : Nat → ClassId) (h0 : Nat) (s0 : Nat) (c0 : Nat) (x : Nat) (y : Nat) (a : Nat) (b : Nat) (ma : Nat → Nat) (iv : Nat → Int32) (co : Int64) (dg : Nat → Nat) (sz : Nat → Nat) (bl : Nat → Nat) (T1 : Nat → Nat) (T2 : Nat → Nat) (T : Nat → Int) (hT : tbO dg sz bl T) (kc : c0 < 3998) (kx : x < 3998) (ky : y < 3998) (ka : a < 3998) (kb : b < 3998) (dT1 : ∀ i, i < 170 → T1 i < 65536) (dT2 : ∀ i, i < 170 → T2 i < 65536) (hbig : (T x * T y + T a * T b).natAbs < 65536 ^ 80) : CV l y_Mo_sum c_Mo_sum 7 { frames := 4, cells := 0, slots := 0, locals := 164 } [.ref h0, .int (nI c0), .int (nI x), .int (nI y), .int (nI a), .int (nI b)] G k s0 [(h0, .inr (8, moL ma iv co)), ((ma 21), .inl (k 0, 319840, .inl (fun i => nI (dg i)))), ((ma 22), .inl (k 0, 3998, .inl (fun i => nI (sz i)))), ((ma 23), .inl (k 2, 3998, .inl (fun i => nI (bl i)))), ((ma 24), .inl (k 0, 170, .inl (fun i => nI (T1 i)))), ((ma 25), .inl (k 0, 170, .inl (fun i => nI (T2 i))))] (fun (u : (Nat → Nat → Nat) × (Nat → Int32)) => tbO (u.1 0) (u.1 1) (u.1 2) (va_up T c0 (T x * T y + T a * T b)) ∧ (∀ i, i < 170 → u.1 3 i < 65536) ∧ (∀ i, i < 170 → u.1 4 i < 65536)) (fun u => [(h0, .inr (8, moL ma (va_up (va_up (va_up (va_up iv 19 (u.2 0)) 20 (u.2 1)) 21 (u.2 2)) 22 (u.2 3)) co)), ((ma 21), .inl (k 0, 319840, .inl (fun i => nI (u.1 0 i)))), ((ma 22), .inl (k 0, 3998, .inl (fun i => nI (u.1 1 i)))), ((ma 23), .inl (k 2, 3998, .inl (fun i => nI (u.1 2 i)))), ((ma 24), .inl (k 0, 170, .inl (fun i => nI (u.1 3 i)))), ((ma 25), .inl (k 0, 170, .inl (fun i => nI (u.1 4 i))))]) 0 0 := by
  refine met_start (by decide) (Nat.le_of_ble_eq_true rfl) ?_
  intro p e s m below meth c C K hA hsz S ls hl
  generalize va_A [(h0, .inr (8, moL ma iv co)), ((ma 21), .inl (k 0, 319840, .inl (fun i => nI (dg i)))), ((ma 22), .inl (k 0, 3998, .inl (fun i => nI (sz i)))), ((ma 23), .inl (k 2, 3998, .inl (fun i => nI (bl i)))), ((ma 24), .inl (k 0, 170, .inl (fun i => nI (T1 i)))), ((ma 25), .inl (k 0, 170, .inl (fun i => nI (T2 i))))] s0 = A at hA S ⊢
  have hx := C.1
  have hb := C.2.1
  have hl : lv_has ls 7 [(0, .ref h0), (1, .int (nI c0)), (2, .int (nI x)), (3, .int (nI y)), (4, .int (nI a)), (5, .int (nI b))] := hl
  refine lv_aload_n hx hb d_Mo_sum_0 rfl (lv_at hl 0 rfl) ?_
  refine lv_iload_n hx hb d_Mo_sum_1 rfl (lv_at hl 2 rfl) ?_
  refine lv_iload_n hx hb d_Mo_sum_2 rfl (lv_at hl 3 rfl) ?_
  refine lv_iload hx hb d_Mo_sum_3 (lv_at hl 4 rfl) ?_
  refine lv_iload hx hb d_Mo_sum_5 (lv_at hl 5 rfl) ?_
  refine r_backv (wi := [(h0, .inr (8, moL ma iv co)), ((ma 21), .inl (k 0, 319840, .inl (fun i => nI (dg i)))), ((ma 22), .inl (k 0, 3998, .inl (fun i => nI (sz i)))), ((ma 23), .inl (k 2, 3998, .inl (fun i => nI (bl i)))), ((ma 24), .inl (k 0, 170, .inl (fun i => nI (T1 i)))), ((ma 25), .inl (k 0, 170, .inl (fun i => nI (T2 i))))]) (wr := []) S hA [0, 1, 2, 3, 4, 5] [] rfl rfl (by decide) (by decide) (va_runV (As := [.int (nI x), .int (nI y), .int (nI a), .int (nI b)]) (rest := []) ⟨hx, hb, C.2.2.1, C.2.2.2.1, C.2.2.2.2.1⟩ (g_Mo_products l G k h0 _ x y a b ma iv co dg sz bl T1 T2 (by first | assumption | omega) (by first | assumption | omega) (by first | assumption | omega) (by first | assumption | omega) (hT.2 x kx).1 (hT.2 y ky).1 (hT.2 a ka).1 (hT.2 b kb).1 (hT.2 x kx).2.1 (hT.2 y ky).2.1 (hT.2 a ka).2.1 (hT.2 b kb).2.1 hT.1 (by first | assumption | omega) (by first | assumption | omega)) (k_virt (n := 4) C wc_Mo_products rfl rfl wz_Mo wm_Mo_351 wn_Mo_products ws_Mo_products (by decide +kernel) ⟨(Nat.le_of_ble_eq_true rfl), (Nat.le_of_ble_eq_true rfl)⟩) (pr_nowV K S [0, 1, 2, 3, 4, 5] (by decide) rfl 0 rfl rfl) rfl rfl hl.1 rfl (lv_room (Nat.le_of_ble_eq_true rfl)) d_Mo_sum_7 ⟨(Nat.le_of_ble_eq_true rfl), (Nat.le_of_ble_eq_true rfl)⟩) (fun u H locs hw1 S => ?_)
  have S : Sw G A s.heap _ _ [(h0, .inr (8, moL ma (va_up (va_up (va_up (va_up iv 21 (nI u.2.2.2.1)) 22 (nI u.2.2.2.2.2)) 20 (nI u.2.2.2.2.1)) 19 (nI u.2.2.1)) co)), ((ma 21), .inl (k 0, 319840, .inl (fun i => nI (dg i)))), ((ma 22), .inl (k 0, 3998, .inl (fun i => nI (sz i)))), ((ma 23), .inl (k 2, 3998, .inl (fun i => nI (bl i)))), ((ma 24), .inl (k 0, 170, .inl (fun i => nI (u.1 i)))), ((ma 25), .inl (k 0, 170, .inl (fun i => nI (u.2.1 i))))] := S
  obtain ⟨hX, hn1, htr, dA, dB, hob⟩ := hw1
  rw [(hT.2 x kx).2.2.2.2, (hT.2 y ky).2.2.2.2, (hT.2 a ka).2.2.2.2, (hT.2 b kb).2.2.2.2] at hX
  have hn8 : u.2.2.1 ≤ 80 := qn_le (v := (T x * T y + T a * T b).natAbs) (by rw [← hX, sv_abs]) hbig htr
  refine lv_iconst (v := 0) hx hb d_Mo_sum_10 (by decide) ?_
  refine lv_istore (lv' := [(6, .int 0), (0, .ref h0), (1, .int (nI c0)), (2, .int (nI x)), (3, .int (nI y)), (4, .int (nI a)), (5, .int (nI b))]) hx hb d_Mo_sum_11 hl (by decide) rfl (fun ls hl => ?_)
  have S : Sw G A s.heap H locs [(h0, .inr (8, moL ma (va_up (va_up (va_up (va_up iv 21 (nI u.2.2.2.1)) 22 (nI u.2.2.2.2.2)) 20 (nI u.2.2.2.2.1)) 19 (nI u.2.2.1)) co)), ((ma 21), .inl (k 0, 319840, .inl (fun i => nI ((dgQ dg u.1 (c0 * 80) 0) i)))), ((ma 22), .inl (k 0, 3998, .inl (fun i => nI (sz i)))), ((ma 23), .inl (k 2, 3998, .inl (fun i => nI (bl i)))), ((ma 24), .inl (k 0, 170, .inl (fun i => nI (u.1 i)))), ((ma 25), .inl (k 0, 170, .inl (fun i => nI (u.2.1 i))))] := by rw [dgQ_0]; exact S
  have lp : ∀ d9, ∀ (t : Nat), (u.2.2.1 - t) < d9 → (t ≤ u.2.2.1) → ∀ (H : Heap) (locs : List Loc), Sw G A s.heap H locs [(h0, .inr (8, moL ma (va_up (va_up (va_up (va_up iv 21 (nI u.2.2.2.1)) 22 (nI u.2.2.2.2.2)) 20 (nI u.2.2.2.2.1)) 19 (nI u.2.2.1)) co)), ((ma 21), .inl (k 0, 319840, .inl (fun i => nI ((dgQ dg u.1 (c0 * 80) t) i)))), ((ma 22), .inl (k 0, 3998, .inl (fun i => nI (sz i)))), ((ma 23), .inl (k 2, 3998, .inl (fun i => nI (bl i)))), ((ma 24), .inl (k 0, 170, .inl (fun i => nI (u.1 i)))), ((ma 25), .inl (k 0, 170, .inl (fun i => nI (u.2.1 i))))] → ∀ ls : Array Slot, lv_has ls 7 [(6, .int (nI t)), (0, .ref h0), (1, .int (nI c0)), (2, .int (nI x)), (3, .int (nI y)), (4, .int (nI a)), (5, .int (nI b))] → W p l e { frames := 4, cells := 0, slots := 0, locals := 164 } s m [Value.ref h0, Value.int (nI c0), Value.int (nI x), Value.int (nI y), Value.int (nI a), Value.int (nI b)].toArray below meth c H locs 0 0 (MQ below (va_Qv (fun (u : (Nat → Nat → Nat) × (Nat → Int32)) => tbO (u.1 0) (u.1 1) (u.1 2) (va_up T c0 (T x * T y + T a * T b)) ∧ (∀ i, i < 170 → u.1 3 i < 65536) ∧ (∀ i, i < 170 → u.1 4 i < 65536)) (Po G k A (fun u => [(h0, .inr (8, moL ma (va_up (va_up (va_up (va_up iv 19 (u.2 0)) 20 (u.2 1)) 21 (u.2 2)) 22 (u.2 3)) co)), ((ma 21), .inl (k 0, 319840, .inl (fun i => nI (u.1 0 i)))), ((ma 22), .inl (k 0, 3998, .inl (fun i => nI (u.1 1 i)))), ((ma 23), .inl (k 2, 3998, .inl (fun i => nI (u.1 2 i)))), ((ma 24), .inl (k 0, 170, .inl (fun i => nI (u.1 3 i)))), ((ma 25), .inl (k 0, 170, .inl (fun i => nI (u.1 4 i))))])) A) [Value.ref h0, Value.int (nI c0), Value.int (nI x), Value.int (nI y), Value.int (nI a), Value.int (nI b)].toArray s 0 0 A) (F0 m 13 ls []) := by
    intro d9
    induction d9 with
    | zero => intro t hm; exact absurd hm (Nat.not_lt_zero _)
    | succ d9 ih =>
      intro t hm ht H locs S ls hl
      refine lv_iload hx hb d_Mo_sum_13 (lv_at hl 0 rfl) ?_
      refine lv_aload_n hx hb d_Mo_sum_15 rfl (lv_at hl 1 rfl) ?_
      refine r_get C K S 0 rfl rfl clOk_Mo 48 (by decide) wf_Mo_286 (v := .int (nI u.2.2.1)) rfl d_Mo_sum_16 ?_
      refine z_icmp_ge (a := t) (b := u.2.2.1) (tgt := 47) hx hb d_Mo_sum_19 (by decide) (by omega) (by omega) (fun hc2 => ?_) (fun hc2 => ?_)
      · have hte : t = u.2.2.1 := by omega
        refine lv_aload_n hx hb d_Mo_sum_47 rfl (lv_at hl 1 rfl) ?_
        refine r_get C K S 0 rfl rfl clOk_Mo 42 (by decide) wf_Mo_86 (v := .ref (ma 22)) rfl d_Mo_sum_48 ?_
        refine lv_iload_n hx hb d_Mo_sum_51 rfl (lv_at hl 2 rfl) ?_
        refine lv_aload_n hx hb d_Mo_sum_52 rfl (lv_at hl 1 rfl) ?_
        refine r_get C K S 0 rfl rfl clOk_Mo 48 (by decide) wf_Mo_286 (v := .int (nI u.2.2.1)) rfl d_Mo_sum_53 ?_
        refine r_iast C K S 2 rfl (i := nI c0) (x := nI u.2.2.1) (show vp_in (nI c0) _ from vp_in_nI (n := c0) (by omega) (by decide)) (f' := fun i => nI (va_up sz c0 u.2.2.1 i)) (ws' := [(h0, .inr (8, moL ma (va_up (va_up (va_up (va_up iv 21 (nI u.2.2.2.1)) 22 (nI u.2.2.2.2.2)) 20 (nI u.2.2.2.2.1)) 19 (nI u.2.2.1)) co)), ((ma 21), .inl (k 0, 319840, .inl (fun i => nI ((dgQ dg u.1 (c0 * 80) t) i)))), ((ma 22), .inl (k 0, 3998, .inl (fun i => nI (va_up sz c0 u.2.2.1 i)))), ((ma 23), .inl (k 2, 3998, .inl (fun i => nI (bl i)))), ((ma 24), .inl (k 0, 170, .inl (fun i => nI (u.1 i)))), ((ma 25), .inl (k 0, 170, .inl (fun i => nI (u.2.1 i))))]) (show upd _ (nI c0 : Int32).toNatClampNeg (nI u.2.2.1) = _ from upd_nI sz (j := c0) (by omega) u.2.2.1) rfl d_Mo_sum_56 (fun H locs S => ?_)
        refine lv_aload_n hx hb d_Mo_sum_57 rfl (lv_at hl 1 rfl) ?_
        refine r_get C K S 0 rfl rfl clOk_Mo 43 (by decide) wf_Mo_89 (v := .ref (ma 23)) rfl d_Mo_sum_58 ?_
        refine lv_iload_n hx hb d_Mo_sum_61 rfl (lv_at hl 2 rfl) ?_
        refine lv_aload_n hx hb d_Mo_sum_62 rfl (lv_at hl 1 rfl) ?_
        refine r_get C K S 0 rfl rfl clOk_Mo 48 (by decide) wf_Mo_286 (v := .int (nI u.2.2.1)) rfl d_Mo_sum_63 ?_
        refine z_if_le (a := u.2.2.1) (tgt := 80) hx hb d_Mo_sum_66 (by decide) (by omega) (fun hc3 => ?_) (fun hc3 => ?_)
        · refine lv_iconst (v := 0) hx hb d_Mo_sum_80 (by decide) ?_
          refine r_zast C K S 3 rfl (i := nI c0) (x := 0) (show vp_in (nI c0) _ from vp_in_nI (n := c0) (by omega) (by decide)) (f' := fun i => nI (va_up bl c0 0 i)) (ws' := [(h0, .inr (8, moL ma (va_up (va_up (va_up (va_up iv 21 (nI u.2.2.2.1)) 22 (nI u.2.2.2.2.2)) 20 (nI u.2.2.2.2.1)) 19 (nI u.2.2.1)) co)), ((ma 21), .inl (k 0, 319840, .inl (fun i => nI ((dgQ dg u.1 (c0 * 80) t) i)))), ((ma 22), .inl (k 0, 3998, .inl (fun i => nI (va_up sz c0 u.2.2.1 i)))), ((ma 23), .inl (k 2, 3998, .inl (fun i => nI (va_up bl c0 0 i)))), ((ma 24), .inl (k 0, 170, .inl (fun i => nI (u.1 i)))), ((ma 25), .inl (k 0, 170, .inl (fun i => nI (u.2.1 i))))]) (show upd _ (nI c0 : Int32).toNatClampNeg (vp_nar .boolean 0) = _ from upd_Z bl (j := c0) (v := 0) (by omega) (by omega)) rfl d_Mo_sum_81 (fun H locs S => ?_)
          exact r_vret C K (uz [dgQ dg u.1 (c0 * 80) t, va_up sz c0 u.2.2.1, va_up bl c0 0, u.1, u.2.1], fz (nI u.2.2.1) (nI u.2.2.2.2.1) (nI u.2.2.2.1) (nI u.2.2.2.2.2) 0) ⟨by show tbO (dgQ dg u.1 (c0 * 80) t) _ _ _; rw [hte]; exact tbO_keepB hT hn8 (by decide) dA htr (fun _ => rfl) (by rw [← hX, hc3]; exact sv_z _ _ _), dA, dB⟩ (S.sub [0, 1, 2, 3, 4, 5] (by decide) rfl) d_Mo_sum_82 (Nat.le_of_ble_eq_true rfl) (Nat.le_of_ble_eq_true rfl)
        · refine lv_aload_n hx hb d_Mo_sum_69 rfl (lv_at hl 1 rfl) ?_
          refine r_get C K S 0 rfl rfl clOk_Mo 50 (by decide) wf_Mo_289 (v := .int (nI u.2.2.2.1)) rfl d_Mo_sum_70 ?_
          refine z_if_eq (a := u.2.2.2.1) (tgt := 80) hx hb d_Mo_sum_73 (by decide) (by omega) (fun hc4 => ?_) (fun hc4 => ?_)
          · refine lv_iconst (v := 0) hx hb d_Mo_sum_80 (by decide) ?_
            refine r_zast C K S 3 rfl (i := nI c0) (x := 0) (show vp_in (nI c0) _ from vp_in_nI (n := c0) (by omega) (by decide)) (f' := fun i => nI (va_up bl c0 0 i)) (ws' := [(h0, .inr (8, moL ma (va_up (va_up (va_up (va_up iv 21 (nI u.2.2.2.1)) 22 (nI u.2.2.2.2.2)) 20 (nI u.2.2.2.2.1)) 19 (nI u.2.2.1)) co)), ((ma 21), .inl (k 0, 319840, .inl (fun i => nI ((dgQ dg u.1 (c0 * 80) t) i)))), ((ma 22), .inl (k 0, 3998, .inl (fun i => nI (va_up sz c0 u.2.2.1 i)))), ((ma 23), .inl (k 2, 3998, .inl (fun i => nI (va_up bl c0 0 i)))), ((ma 24), .inl (k 0, 170, .inl (fun i => nI (u.1 i)))), ((ma 25), .inl (k 0, 170, .inl (fun i => nI (u.2.1 i))))]) (show upd _ (nI c0 : Int32).toNatClampNeg (vp_nar .boolean 0) = _ from upd_Z bl (j := c0) (v := 0) (by omega) (by omega)) rfl d_Mo_sum_81 (fun H locs S => ?_)
            exact r_vret C K (uz [dgQ dg u.1 (c0 * 80) t, va_up sz c0 u.2.2.1, va_up bl c0 0, u.1, u.2.1], fz (nI u.2.2.1) (nI u.2.2.2.2.1) (nI u.2.2.2.1) (nI u.2.2.2.2.2) 0) ⟨by show tbO (dgQ dg u.1 (c0 * 80) t) _ _ _; rw [hte]; exact tbO_keepB hT hn8 (by decide) dA htr (fun _ => rfl) (by rw [← hX, show u.2.2.2.1 = 0 by omega]), dA, dB⟩ (S.sub [0, 1, 2, 3, 4, 5] (by decide) rfl) d_Mo_sum_82 (Nat.le_of_ble_eq_true rfl) (Nat.le_of_ble_eq_true rfl)
          · refine lv_iconst (v := 1) hx hb d_Mo_sum_76 (by decide) ?_
            refine lv_goto (tgt := 81) hx hb d_Mo_sum_77 (by decide) ?_
            refine r_zast C K S 3 rfl (i := nI c0) (x := 1) (show vp_in (nI c0) _ from vp_in_nI (n := c0) (by omega) (by decide)) (f' := fun i => nI (va_up bl c0 1 i)) (ws' := [(h0, .inr (8, moL ma (va_up (va_up (va_up (va_up iv 21 (nI u.2.2.2.1)) 22 (nI u.2.2.2.2.2)) 20 (nI u.2.2.2.2.1)) 19 (nI u.2.2.1)) co)), ((ma 21), .inl (k 0, 319840, .inl (fun i => nI ((dgQ dg u.1 (c0 * 80) t) i)))), ((ma 22), .inl (k 0, 3998, .inl (fun i => nI (va_up sz c0 u.2.2.1 i)))), ((ma 23), .inl (k 2, 3998, .inl (fun i => nI (va_up bl c0 1 i)))), ((ma 24), .inl (k 0, 170, .inl (fun i => nI (u.1 i)))), ((ma 25), .inl (k 0, 170, .inl (fun i => nI (u.2.1 i))))]) (show upd _ (nI c0 : Int32).toNatClampNeg (vp_nar .boolean 1) = _ from upd_Z bl (j := c0) (v := 1) (by omega) (by omega)) rfl d_Mo_sum_81 (fun H locs S => ?_)
            exact r_vret C K (uz [dgQ dg u.1 (c0 * 80) t, va_up sz c0 u.2.2.1, va_up bl c0 1, u.1, u.2.1], fz (nI u.2.2.1) (nI u.2.2.2.2.1) (nI u.2.2.2.1) (nI u.2.2.2.2.2) 0) ⟨by show tbO (dgQ dg u.1 (c0 * 80) t) _ _ _; rw [hte]; exact tbO_keepB hT hn8 (by decide) dA htr (fun q => by omega) (by rw [← hX, show u.2.2.2.1 = 1 by omega]), dA, dB⟩ (S.sub [0, 1, 2, 3, 4, 5] (by decide) rfl) d_Mo_sum_82 (Nat.le_of_ble_eq_true rfl) (Nat.le_of_ble_eq_true rfl)
      · refine lv_aload_n hx hb d_Mo_sum_22 rfl (lv_at hl 1 rfl) ?_
        refine r_get C K S 0 rfl rfl clOk_Mo 41 (by decide) wf_Mo_83 (v := .ref (ma 21)) rfl d_Mo_sum_23 ?_
        refine lv_iload_n hx hb d_Mo_sum_26 rfl (lv_at hl 2 rfl) ?_
        refine lv_bipush (v := 80) hx hb d_Mo_sum_27 (by decide) ?_
        refine z_imul (x := nI c0) (y := 80) (v := nI (c0 * 80)) hx hb d_Mo_sum_29 (pk_mul c0 80) ?_
        refine lv_iload hx hb d_Mo_sum_30 (lv_at hl 0 rfl) ?_
        refine z_iadd (x := nI (c0 * 80)) (y := nI t) (v := nI (c0 * 80 + t)) hx hb d_Mo_sum_32 (nI_add (c0 * 80) t) ?_
        refine lv_aload_n hx hb d_Mo_sum_33 rfl (lv_at hl 1 rfl) ?_
        refine r_get C K S 0 rfl rfl clOk_Mo 44 (by decide) wf_Mo_93 (v := .ref (ma 24)) rfl d_Mo_sum_34 ?_
        refine lv_iload hx hb d_Mo_sum_37 (lv_at hl 0 rfl) ?_
        refine r_iald C K S 4 rfl (i := nI t) (show vp_in (nI t) _ from vp_in_nI (n := t) (by omega) (by decide)) (v := nI (u.1 t)) (by rw [nI_clamp (by omega)]) d_Mo_sum_39 ?_
        refine r_iast C K S 1 rfl (i := nI (c0 * 80 + t)) (x := nI (u.1 t)) (show vp_in (nI (c0 * 80 + t)) _ from vp_in_nI (n := (c0 * 80 + t)) (by omega) (by decide)) (f' := fun i => nI (va_up (dgQ dg u.1 (c0 * 80) t) (c0 * 80 + t) (u.1 t) i)) (ws' := [(h0, .inr (8, moL ma (va_up (va_up (va_up (va_up iv 21 (nI u.2.2.2.1)) 22 (nI u.2.2.2.2.2)) 20 (nI u.2.2.2.2.1)) 19 (nI u.2.2.1)) co)), ((ma 21), .inl (k 0, 319840, .inl (fun i => nI (va_up (dgQ dg u.1 (c0 * 80) t) (c0 * 80 + t) (u.1 t) i)))), ((ma 22), .inl (k 0, 3998, .inl (fun i => nI (sz i)))), ((ma 23), .inl (k 2, 3998, .inl (fun i => nI (bl i)))), ((ma 24), .inl (k 0, 170, .inl (fun i => nI (u.1 i)))), ((ma 25), .inl (k 0, 170, .inl (fun i => nI (u.2.1 i))))]) (show upd _ (nI (c0 * 80 + t) : Int32).toNatClampNeg (nI (u.1 t)) = _ from upd_nI (dgQ dg u.1 (c0 * 80) t) (j := (c0 * 80 + t)) (by omega) (u.1 t)) rfl d_Mo_sum_40 (fun H locs S => ?_)
        have S : Sw G A s.heap H locs [(h0, .inr (8, moL ma (va_up (va_up (va_up (va_up iv 21 (nI u.2.2.2.1)) 22 (nI u.2.2.2.2.2)) 20 (nI u.2.2.2.2.1)) 19 (nI u.2.2.1)) co)), ((ma 21), .inl (k 0, 319840, .inl (fun i => nI ((dgQ dg u.1 (c0 * 80) (t + 1)) i)))), ((ma 22), .inl (k 0, 3998, .inl (fun i => nI (sz i)))), ((ma 23), .inl (k 2, 3998, .inl (fun i => nI (bl i)))), ((ma 24), .inl (k 0, 170, .inl (fun i => nI (u.1 i)))), ((ma 25), .inl (k 0, 170, .inl (fun i => nI (u.2.1 i))))] := by rw [dgQ_s] at S; exact S
        refine lv_iinc (v := nI (t + 1)) (lv' := [(6, .int (nI (t + 1))), (0, .ref h0), (1, .int (nI c0)), (2, .int (nI x)), (3, .int (nI y)), (4, .int (nI a)), (5, .int (nI b))]) hx hb d_Mo_sum_41 hl (k := 0) rfl (show nI t + Int32.ofInt 1 = nI (t + 1) from (nI_add t 1).trans (congrArg nI (by omega))) (by decide) rfl (fun ls hl => ?_)
        refine lv_goto (tgt := 13) hx hb d_Mo_sum_44 (by decide) ?_
        exact ih (t + 1) (by omega) (by omega) _ _ (S.sub [0, 1, 2, 3, 4, 5] (by decide) rfl) ls (lv_sub hl [0, 1, 2, 3, 4, 5, 6] rfl)
  exact lp _ 0 (Nat.lt_succ_self _) (by omega) _ _ (S.sub [0, 1, 2, 3, 4, 5] (by decide) rfl) ls (lv_sub hl [0, 1, 2, 3, 4, 5, 6] rfl)
