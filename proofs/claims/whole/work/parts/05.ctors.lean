abbrev ul (l : List Nat) : Nat → Nat := fun j => l.getD j 0
theorem df_So : ∀ j, j < 14 → defaultValue (t_So j) = vp_V [.null, .null, .null, .null, .null, .null, .null, .null, .null, .null, .int 0, .int 0, .int 0, .int 0] j := by decide +kernel
theorem df_Wh : ∀ j, j < 3 → defaultValue (t_Wh j) = vp_V [.null, .int 0, .int 0] j := by decide +kernel
theorem df_Be : ∀ j, j < 8 → defaultValue (t_Be j) = vp_V [.null, .null, .null, .null, .null, .null, .int 0, .int 0] j := by decide +kernel
theorem df_Bo : ∀ j, j < 9 → defaultValue (t_Bo j) = vp_V [.null, .null, .null, .null, .null, .null, .int 0, .int 0, .int 0] j := by decide +kernel
theorem df_Re : ∀ j, j < 5 → defaultValue (t_Re j) = vp_V [.null, .null, .int 0, .int 0, .int 0] j := by decide +kernel
theorem df_Ru : ∀ j, j < 12 → defaultValue (t_Ru j) = vp_V [.null, .null, .null, .null, .null, .int 0, .int 0, .int 0, .int 0, .int 0, .long 0, .int 0] j := by decide +kernel
theorem df_Ne : ∀ j, j < 12 → defaultValue (t_Ne j) = vp_V [.null, .null, .null, .null, .null, .null, .null, .null, .null, .int 0, .int 0, .int 0] j := by decide +kernel
theorem df_PB : ∀ j, j < 9 → defaultValue (t_PB j) = vp_V [.null, .null, .null, .null, .null, .null, .int 0, .int 0, .int 0] j := by decide +kernel
theorem df_Mo : ∀ j, j < 61 → defaultValue (t_Mo j) = vp_V [.int 0, .null, .null, .null, .int 0, .null, .null, .null, .null, .int 0, .long 0, .int 0, .int 0, .null, .null, .null, .null, .null, .int 0, .null, .int 0, .int 0, .int 0, .int 0, .int 0, .int 0, .int 0, .null, .int 0, .int 0, .int 0, .int 0, .null, .null, .int 0, .null, .null, .null, .null, .null, .int 0, .null, .null, .null, .null, .null, .null, .null, .int 0, .int 0, .int 0, .int 0, .int 0, .int 0, .int 0, .null, .null, .int 0, .int 0, .int 0, .int 0] j := by decide +kernel
theorem d_Wh_init_0 : decode c_Wh_init 0 = .ok (.aload_n 0, 1) := by decide +kernel
theorem d_Wh_init_1 : decode c_Wh_init 1 = .ok (.invokespecial 3, 3) := by decide +kernel
theorem d_Wh_init_4 : decode c_Wh_init 4 = .ok (.aload_n 0, 1) := by decide +kernel
theorem d_Wh_init_5 : decode c_Wh_init 5 = .ok (.iconst 3, 1) := by decide +kernel
theorem d_Wh_init_6 : decode c_Wh_init 6 = .ok (.newarray .int, 2) := by decide +kernel
theorem d_Wh_init_8 : decode c_Wh_init 8 = .ok (.putfield 9, 3) := by decide +kernel
theorem d_Wh_init_11 : decode c_Wh_init 11 = .ok (.return_, 1) := by decide +kernel
set_option maxRecDepth 100000 in
set_option maxHeartbeats 4000000 in
/-- Whole(): three digits, 0 -/
theorem k_Wh_init (l : Launch) (G : va_G) (k : Nat → ClassId) (h0 sz : Nat) : CV l y_Wh_init c_Wh_init 1 { frames := 1, cells := 1, slots := 3, locals := 20 } [.ref h0] G k sz [(h0, .inr (2, [.null, .int 0, .int 0]))] (fun _ : Nat → Nat => True) (fun u => [(h0, .inr (2, [.ref (u 0), .int 0, .int 0])), ((u 0), .inl (k 0, 3, .inl (fun _ => 0)))]) 1 3 := by
  refine met_start (by decide) (Nat.le_of_ble_eq_true rfl) ?_
  intro p e s m below meth c C K hA hsz S ls hl
  generalize va_A [(h0, .inr (2, [.null, .int 0, .int 0]))] sz = A at hA S ⊢
  have hx := C.1
  have hb := C.2.1
  have hl : lv_has ls 1 [(0, .ref h0)] := hl
  refine lv_aload_n hx hb d_Wh_init_0 rfl (lv_at hl 0 rfl) ?_
  refine r_objInit C wm_Wh_3 hl.1 d_Wh_init_1 (Nat.le_of_ble_eq_true rfl) (Nat.le_of_ble_eq_true rfl) ?_
  refine lv_aload_n hx hb d_Wh_init_4 rfl (lv_at hl 0 rfl) ?_
  refine lv_iconst (v := 3) hx hb d_Wh_init_5 (by decide) ?_
  refine r_newI C K S hA 3 (by decide) (by decide) (by decide) (Nat.le_of_ble_eq_true rfl) (Nat.le_of_ble_eq_true rfl) d_Wh_init_6 (fun q1 H S => ?_)
  have S : Sw G A s.heap _ _ [(h0, .inr (2, [.null, .int 0, .int 0])), (q1, .inl (k 0, 3, .inl (fun _ => 0)))] := S
  refine r_put C K S 0 rfl rfl clOk_Wh 0 (by decide) wf_Wh_9 rfl (ty := .array .int) (v := .ref q1) (by decide +kernel) rfl rfl (Nat.le_of_ble_eq_true rfl) (fs' := [.ref q1, .int 0, .int 0]) (ws' := [(h0, .inr (2, [.ref q1, .int 0, .int 0])), (q1, .inl (k 0, 3, .inl (fun _ => 0)))]) rfl rfl d_Wh_init_8 (fun H locs S => ?_)
  exact r_vret C K (ul [q1]) trivial (S.sub [0, 1] (by decide) rfl) d_Wh_init_11 (Nat.le_of_ble_eq_true rfl) (Nat.le_of_ble_eq_true rfl)
theorem d_Bo_init_0 : decode c_Bo_init 0 = .ok (.aload_n 0, 1) := by decide +kernel
theorem d_Bo_init_1 : decode c_Bo_init 1 = .ok (.invokespecial 3, 3) := by decide +kernel
theorem d_Bo_init_4 : decode c_Bo_init 4 = .ok (.aload_n 0, 1) := by decide +kernel
theorem d_Bo_init_5 : decode c_Bo_init 5 = .ok (.sipush 200, 3) := by decide +kernel
theorem d_Bo_init_8 : decode c_Bo_init 8 = .ok (.newarray .int, 2) := by decide +kernel
theorem d_Bo_init_10 : decode c_Bo_init 10 = .ok (.putfield 9, 3) := by decide +kernel
theorem d_Bo_init_13 : decode c_Bo_init 13 = .ok (.aload_n 0, 1) := by decide +kernel
theorem d_Bo_init_14 : decode c_Bo_init 14 = .ok (.bipush 40, 2) := by decide +kernel
theorem d_Bo_init_16 : decode c_Bo_init 16 = .ok (.newarray .int, 2) := by decide +kernel
theorem d_Bo_init_18 : decode c_Bo_init 18 = .ok (.putfield 15, 3) := by decide +kernel
theorem d_Bo_init_21 : decode c_Bo_init 21 = .ok (.aload_n 0, 1) := by decide +kernel
theorem d_Bo_init_22 : decode c_Bo_init 22 = .ok (.bipush 40, 2) := by decide +kernel
theorem d_Bo_init_24 : decode c_Bo_init 24 = .ok (.newarray .int, 2) := by decide +kernel
theorem d_Bo_init_26 : decode c_Bo_init 26 = .ok (.putfield 18, 3) := by decide +kernel
theorem d_Bo_init_29 : decode c_Bo_init 29 = .ok (.aload_n 0, 1) := by decide +kernel
theorem d_Bo_init_30 : decode c_Bo_init 30 = .ok (.bipush 40, 2) := by decide +kernel
theorem d_Bo_init_32 : decode c_Bo_init 32 = .ok (.newarray .int, 2) := by decide +kernel
theorem d_Bo_init_34 : decode c_Bo_init 34 = .ok (.putfield 21, 3) := by decide +kernel
theorem d_Bo_init_37 : decode c_Bo_init 37 = .ok (.aload_n 0, 1) := by decide +kernel
theorem d_Bo_init_38 : decode c_Bo_init 38 = .ok (.bipush 40, 2) := by decide +kernel
theorem d_Bo_init_40 : decode c_Bo_init 40 = .ok (.newarray .int, 2) := by decide +kernel
theorem d_Bo_init_42 : decode c_Bo_init 42 = .ok (.putfield 24, 3) := by decide +kernel
theorem d_Bo_init_45 : decode c_Bo_init 45 = .ok (.aload_n 0, 1) := by decide +kernel
theorem d_Bo_init_46 : decode c_Bo_init 46 = .ok (.bipush 40, 2) := by decide +kernel
theorem d_Bo_init_48 : decode c_Bo_init 48 = .ok (.newarray .int, 2) := by decide +kernel
theorem d_Bo_init_50 : decode c_Bo_init 50 = .ok (.putfield 27, 3) := by decide +kernel
theorem d_Bo_init_53 : decode c_Bo_init 53 = .ok (.return_, 1) := by decide +kernel
theorem d_Re_init_0 : decode c_Re_init 0 = .ok (.aload_n 0, 1) := by decide +kernel
theorem d_Re_init_1 : decode c_Re_init 1 = .ok (.invokespecial 3, 3) := by decide +kernel
theorem d_Re_init_4 : decode c_Re_init 4 = .ok (.aload_n 0, 1) := by decide +kernel
theorem d_Re_init_5 : decode c_Re_init 5 = .ok (.bipush (-2), 2) := by decide +kernel
theorem d_Re_init_7 : decode c_Re_init 7 = .ok (.putfield 9, 3) := by decide +kernel
theorem d_Re_init_10 : decode c_Re_init 10 = .ok (.aload_n 0, 1) := by decide +kernel
theorem d_Re_init_11 : decode c_Re_init 11 = .ok (.aload_n 1, 1) := by decide +kernel
theorem d_Re_init_12 : decode c_Re_init 12 = .ok (.putfield 15, 3) := by decide +kernel
theorem d_Re_init_15 : decode c_Re_init 15 = .ok (.aload_n 0, 1) := by decide +kernel
theorem d_Re_init_16 : decode c_Re_init 16 = .ok (.aload_n 1, 1) := by decide +kernel
theorem d_Re_init_17 : decode c_Re_init 17 = .ok (.iconst 0, 1) := by decide +kernel
theorem d_Re_init_18 : decode c_Re_init 18 = .ok (.aaload, 1) := by decide +kernel
theorem d_Re_init_19 : decode c_Re_init 19 = .ok (.putfield 19, 3) := by decide +kernel
theorem d_Re_init_22 : decode c_Re_init 22 = .ok (.return_, 1) := by decide +kernel
theorem d_Ru_init_0 : decode c_Ru_init 0 = .ok (.aload_n 0, 1) := by decide +kernel
theorem d_Ru_init_1 : decode c_Ru_init 1 = .ok (.invokespecial 3, 3) := by decide +kernel
theorem d_Ru_init_4 : decode c_Ru_init 4 = .ok (.aload_n 0, 1) := by decide +kernel
theorem d_Ru_init_5 : decode c_Ru_init 5 = .ok (.bipush 60, 2) := by decide +kernel
theorem d_Ru_init_7 : decode c_Ru_init 7 = .ok (.newarray .int, 2) := by decide +kernel
theorem d_Ru_init_9 : decode c_Ru_init 9 = .ok (.putfield 9, 3) := by decide +kernel
theorem d_Ru_init_12 : decode c_Ru_init 12 = .ok (.aload_n 0, 1) := by decide +kernel
theorem d_Ru_init_13 : decode c_Ru_init 13 = .ok (.sipush 1080, 3) := by decide +kernel
theorem d_Ru_init_16 : decode c_Ru_init 16 = .ok (.newarray .int, 2) := by decide +kernel
theorem d_Ru_init_18 : decode c_Ru_init 18 = .ok (.putfield 15, 3) := by decide +kernel
theorem d_Ru_init_21 : decode c_Ru_init 21 = .ok (.aload_n 0, 1) := by decide +kernel
theorem d_Ru_init_22 : decode c_Ru_init 22 = .ok (.sipush 960, 3) := by decide +kernel
theorem d_Ru_init_25 : decode c_Ru_init 25 = .ok (.newarray .int, 2) := by decide +kernel
theorem d_Ru_init_27 : decode c_Ru_init 27 = .ok (.putfield 18, 3) := by decide +kernel
theorem d_Ru_init_30 : decode c_Ru_init 30 = .ok (.aload_n 0, 1) := by decide +kernel
theorem d_Ru_init_31 : decode c_Ru_init 31 = .ok (.bipush 60, 2) := by decide +kernel
theorem d_Ru_init_33 : decode c_Ru_init 33 = .ok (.newarray .int, 2) := by decide +kernel
theorem d_Ru_init_35 : decode c_Ru_init 35 = .ok (.putfield 21, 3) := by decide +kernel
theorem d_Ru_init_38 : decode c_Ru_init 38 = .ok (.aload_n 0, 1) := by decide +kernel
theorem d_Ru_init_39 : decode c_Ru_init 39 = .ok (.bipush (-2), 2) := by decide +kernel
theorem d_Ru_init_41 : decode c_Ru_init 41 = .ok (.putfield 24, 3) := by decide +kernel
theorem d_Ru_init_44 : decode c_Ru_init 44 = .ok (.aload_n 0, 1) := by decide +kernel
theorem d_Ru_init_45 : decode c_Ru_init 45 = .ok (.aload_n 1, 1) := by decide +kernel
theorem d_Ru_init_46 : decode c_Ru_init 46 = .ok (.putfield 28, 3) := by decide +kernel
theorem d_Ru_init_49 : decode c_Ru_init 49 = .ok (.return_, 1) := by decide +kernel
theorem d_Ne_init_0 : decode c_Ne_init 0 = .ok (.aload_n 0, 1) := by decide +kernel
theorem d_Ne_init_1 : decode c_Ne_init 1 = .ok (.invokespecial 3, 3) := by decide +kernel
theorem d_Ne_init_4 : decode c_Ne_init 4 = .ok (.aload_n 0, 1) := by decide +kernel
theorem d_Ne_init_5 : decode c_Ne_init 5 = .ok (.iconst 4, 1) := by decide +kernel
theorem d_Ne_init_6 : decode c_Ne_init 6 = .ok (.newarray .int, 2) := by decide +kernel
theorem d_Ne_init_8 : decode c_Ne_init 8 = .ok (.putfield 9, 3) := by decide +kernel
theorem d_Ne_init_11 : decode c_Ne_init 11 = .ok (.aload_n 0, 1) := by decide +kernel
theorem d_Ne_init_12 : decode c_Ne_init 12 = .ok (.bipush 90, 2) := by decide +kernel
theorem d_Ne_init_14 : decode c_Ne_init 14 = .ok (.bipush 41, 2) := by decide +kernel
theorem d_Ne_init_16 : decode c_Ne_init 16 = .ok (.multianewarray 15 2, 4) := by decide +kernel
theorem d_Ne_init_20 : decode c_Ne_init 20 = .ok (.putfield 17, 3) := by decide +kernel
theorem d_Ne_init_23 : decode c_Ne_init 23 = .ok (.aload_n 0, 1) := by decide +kernel
theorem d_Ne_init_24 : decode c_Ne_init 24 = .ok (.bipush 41, 2) := by decide +kernel
theorem d_Ne_init_26 : decode c_Ne_init 26 = .ok (.newarray .int, 2) := by decide +kernel
theorem d_Ne_init_28 : decode c_Ne_init 28 = .ok (.putfield 20, 3) := by decide +kernel
theorem d_Ne_init_31 : decode c_Ne_init 31 = .ok (.aload_n 0, 1) := by decide +kernel
theorem d_Ne_init_32 : decode c_Ne_init 32 = .ok (.bipush 41, 2) := by decide +kernel
theorem d_Ne_init_34 : decode c_Ne_init 34 = .ok (.newarray .int, 2) := by decide +kernel
theorem d_Ne_init_36 : decode c_Ne_init 36 = .ok (.putfield 23, 3) := by decide +kernel
theorem d_Ne_init_39 : decode c_Ne_init 39 = .ok (.aload_n 0, 1) := by decide +kernel
theorem d_Ne_init_40 : decode c_Ne_init 40 = .ok (.sipush 306, 3) := by decide +kernel
theorem d_Ne_init_43 : decode c_Ne_init 43 = .ok (.bipush 41, 2) := by decide +kernel
theorem d_Ne_init_45 : decode c_Ne_init 45 = .ok (.multianewarray 15 2, 4) := by decide +kernel
theorem d_Ne_init_49 : decode c_Ne_init 49 = .ok (.putfield 26, 3) := by decide +kernel
theorem d_Ne_init_52 : decode c_Ne_init 52 = .ok (.aload_n 0, 1) := by decide +kernel
theorem d_Ne_init_53 : decode c_Ne_init 53 = .ok (.bipush 17, 2) := by decide +kernel
theorem d_Ne_init_55 : decode c_Ne_init 55 = .ok (.bipush 41, 2) := by decide +kernel
theorem d_Ne_init_57 : decode c_Ne_init 57 = .ok (.multianewarray 15 2, 4) := by decide +kernel
theorem d_Ne_init_61 : decode c_Ne_init 61 = .ok (.putfield 29, 3) := by decide +kernel
theorem d_Ne_init_64 : decode c_Ne_init 64 = .ok (.aload_n 0, 1) := by decide +kernel
theorem d_Ne_init_65 : decode c_Ne_init 65 = .ok (.bipush 17, 2) := by decide +kernel
theorem d_Ne_init_67 : decode c_Ne_init 67 = .ok (.bipush 41, 2) := by decide +kernel
theorem d_Ne_init_69 : decode c_Ne_init 69 = .ok (.multianewarray 15 2, 4) := by decide +kernel
theorem d_Ne_init_73 : decode c_Ne_init 73 = .ok (.putfield 32, 3) := by decide +kernel
theorem d_Ne_init_76 : decode c_Ne_init 76 = .ok (.aload_n 0, 1) := by decide +kernel
theorem d_Ne_init_77 : decode c_Ne_init 77 = .ok (.aload_n 1, 1) := by decide +kernel
theorem d_Ne_init_78 : decode c_Ne_init 78 = .ok (.putfield 35, 3) := by decide +kernel
theorem d_Ne_init_81 : decode c_Ne_init 81 = .ok (.aload_n 0, 1) := by decide +kernel
theorem d_Ne_init_82 : decode c_Ne_init 82 = .ok (.aload_n 1, 1) := by decide +kernel
theorem d_Ne_init_83 : decode c_Ne_init 83 = .ok (.iconst 0, 1) := by decide +kernel
theorem d_Ne_init_84 : decode c_Ne_init 84 = .ok (.aaload, 1) := by decide +kernel
theorem d_Ne_init_85 : decode c_Ne_init 85 = .ok (.putfield 39, 3) := by decide +kernel
theorem d_Ne_init_88 : decode c_Ne_init 88 = .ok (.return_, 1) := by decide +kernel