section
theorem up_lt {α : Type} {f : Nat → α} {n i : Nat} {v : α} (h : i < n) : va_up f n v i = f i := va_up_ne _ _ (by omega)
theorem tn_shift {U M : Nat → Int64} {b c : Nat} (h : ∀ k, k < 19 → lz U (22 * b + k) = lz M (22 * c + k)) : tn U b = tn M c := ns_congr h
theorem ucT_le {W : Nat → Int32} {tk : Nat → Nat} {E : Nat → Nat} : ∀ (fu kn p : Nat), kn + fu ≤ 19 → ucT W tk E fu kn p ≤ 20 * nd W E fu p ∧ ccT W tk E fu kn p ≤ 40 * nd W E fu p
  | 0, _, _, _ => ⟨Nat.zero_le _, Nat.zero_le _⟩
  | fu + 1, kn, p, h => by
    rw [ucT, ccT, nd]
    have i1 := ucT_le (W := W) (tk := tk) (E := E) fu kn (p + 1) (by omega)
    have i2 := ucT_le (W := W) (tk := tk) (E := E) fu kn (p + 2) (by omega)
    have i3 := ucT_le (W := W) (tk := tk) (E := E) fu (kn + 1) (E (p + 2)) (by omega)
    have i4 := ucT_le (W := W) (tk := tk) (E := E) fu (kn + 1) (E (p + 1)) (by omega)
    have i5 := ncN_le (W := W) (tk := tk) (n0 := nd W E fu (p + 2) + nd W E fu (E (p + 2))) (p0 := p + 2) (v := (W (p + 1)).toNatClampNeg) kn
    split
    · omega
    · split
      · omega
      · split
        · omega
        · split
          · omega
          · split <;> omega
theorem d_Mo_needOf_0 : decode c_Mo_needOf 0 = .ok (.aload_n 0, 1) := by decide +kernel
theorem d_Mo_needOf_1 : decode c_Mo_needOf 1 = .ok (.iconst 0, 1) := by decide +kernel
theorem d_Mo_needOf_2 : decode c_Mo_needOf 2 = .ok (.putfield 221, 3) := by decide +kernel
theorem d_Mo_needOf_5 : decode c_Mo_needOf 5 = .ok (.aload_n 0, 1) := by decide +kernel
theorem d_Mo_needOf_6 : decode c_Mo_needOf 6 = .ok (.iconst 0, 1) := by decide +kernel
theorem d_Mo_needOf_7 : decode c_Mo_needOf 7 = .ok (.aload_n 0, 1) := by decide +kernel
theorem d_Mo_needOf_8 : decode c_Mo_needOf 8 = .ok (.getfield 9, 3) := by decide +kernel
theorem d_Mo_needOf_11 : decode c_Mo_needOf 11 = .ok (.iload_n 1, 1) := by decide +kernel
theorem d_Mo_needOf_12 : decode c_Mo_needOf 12 = .ok (.iaload, 1) := by decide +kernel
theorem d_Mo_needOf_13 : decode c_Mo_needOf 13 = .ok (.iload_n 2, 1) := by decide +kernel
theorem d_Mo_needOf_14 : decode c_Mo_needOf 14 = .ok (.iload_n 3, 1) := by decide +kernel
theorem d_Mo_needOf_15 : decode c_Mo_needOf 15 = .ok (.invokevirtual 230, 3) := by decide +kernel
theorem d_Mo_needOf_18 : decode c_Mo_needOf 18 = .ok (.aload_n 0, 1) := by decide +kernel
theorem d_Mo_needOf_19 : decode c_Mo_needOf 19 = .ok (.getfield 221, 3) := by decide +kernel
theorem d_Mo_needOf_22 : decode c_Mo_needOf 22 = .ok (.ifCond .le 129, 3) := by decide +kernel
theorem d_Mo_needOf_25 : decode c_Mo_needOf 25 = .ok (.aload_n 0, 1) := by decide +kernel
theorem d_Mo_needOf_26 : decode c_Mo_needOf 26 = .ok (.getfield 221, 3) := by decide +kernel
theorem d_Mo_needOf_29 : decode c_Mo_needOf 29 = .ok (.iconst 1, 1) := by decide +kernel
theorem d_Mo_needOf_30 : decode c_Mo_needOf 30 = .ok (.isub, 1) := by decide +kernel
theorem d_Mo_needOf_31 : decode c_Mo_needOf 31 = .ok (.istore 4, 2) := by decide +kernel
theorem d_Mo_needOf_33 : decode c_Mo_needOf 33 = .ok (.aload_n 0, 1) := by decide +kernel
theorem d_Mo_needOf_34 : decode c_Mo_needOf 34 = .ok (.getfield 76, 3) := by decide +kernel
theorem d_Mo_needOf_37 : decode c_Mo_needOf 37 = .ok (.iload 4, 2) := by decide +kernel
theorem d_Mo_needOf_39 : decode c_Mo_needOf 39 = .ok (.iaload, 1) := by decide +kernel
theorem d_Mo_needOf_40 : decode c_Mo_needOf 40 = .ok (.istore 5, 2) := by decide +kernel
theorem d_Mo_needOf_42 : decode c_Mo_needOf 42 = .ok (.aload_n 0, 1) := by decide +kernel
theorem d_Mo_needOf_43 : decode c_Mo_needOf 43 = .ok (.getfield 76, 3) := by decide +kernel
theorem d_Mo_needOf_46 : decode c_Mo_needOf 46 = .ok (.iload 4, 2) := by decide +kernel
theorem d_Mo_needOf_48 : decode c_Mo_needOf 48 = .ok (.dup2, 1) := by decide +kernel
theorem d_Mo_needOf_49 : decode c_Mo_needOf 49 = .ok (.iaload, 1) := by decide +kernel
theorem d_Mo_needOf_50 : decode c_Mo_needOf 50 = .ok (.iconst 1, 1) := by decide +kernel
theorem d_Mo_needOf_51 : decode c_Mo_needOf 51 = .ok (.iadd, 1) := by decide +kernel
theorem d_Mo_needOf_52 : decode c_Mo_needOf 52 = .ok (.iastore, 1) := by decide +kernel
theorem d_Mo_needOf_53 : decode c_Mo_needOf 53 = .ok (.iload 5, 2) := by decide +kernel
theorem d_Mo_needOf_55 : decode c_Mo_needOf 55 = .ok (.ifCond .ne 32, 3) := by decide +kernel
theorem d_Mo_needOf_58 : decode c_Mo_needOf 58 = .ok (.aload_n 0, 1) := by decide +kernel
theorem d_Mo_needOf_59 : decode c_Mo_needOf 59 = .ok (.iload_n 1, 1) := by decide +kernel
theorem d_Mo_needOf_60 : decode c_Mo_needOf 60 = .ok (.aload_n 0, 1) := by decide +kernel
theorem d_Mo_needOf_61 : decode c_Mo_needOf 61 = .ok (.getfield 67, 3) := by decide +kernel
theorem d_Mo_needOf_64 : decode c_Mo_needOf 64 = .ok (.iload 4, 2) := by decide +kernel
theorem d_Mo_needOf_66 : decode c_Mo_needOf 66 = .ok (.iaload, 1) := by decide +kernel
theorem d_Mo_needOf_67 : decode c_Mo_needOf 67 = .ok (.aload_n 0, 1) := by decide +kernel
theorem d_Mo_needOf_68 : decode c_Mo_needOf 68 = .ok (.getfield 70, 3) := by decide +kernel
theorem d_Mo_needOf_71 : decode c_Mo_needOf 71 = .ok (.iload 4, 2) := by decide +kernel
theorem d_Mo_needOf_73 : decode c_Mo_needOf 73 = .ok (.iaload, 1) := by decide +kernel
theorem d_Mo_needOf_74 : decode c_Mo_needOf 74 = .ok (.aload_n 0, 1) := by decide +kernel
theorem d_Mo_needOf_75 : decode c_Mo_needOf 75 = .ok (.getfield 73, 3) := by decide +kernel
theorem d_Mo_needOf_78 : decode c_Mo_needOf 78 = .ok (.iload 4, 2) := by decide +kernel
theorem d_Mo_needOf_80 : decode c_Mo_needOf 80 = .ok (.iaload, 1) := by decide +kernel
theorem d_Mo_needOf_81 : decode c_Mo_needOf 81 = .ok (.invokevirtual 251, 3) := by decide +kernel
theorem d_Mo_needOf_84 : decode c_Mo_needOf 84 = .ok (.goto 64, 3) := by decide +kernel
theorem d_Mo_needOf_87 : decode c_Mo_needOf 87 = .ok (.iload 5, 2) := by decide +kernel
theorem d_Mo_needOf_89 : decode c_Mo_needOf 89 = .ok (.iconst 1, 1) := by decide +kernel
theorem d_Mo_needOf_90 : decode c_Mo_needOf 90 = .ok (.if_icmp .ne 32, 3) := by decide +kernel
theorem d_Mo_needOf_93 : decode c_Mo_needOf 93 = .ok (.aload_n 0, 1) := by decide +kernel
theorem d_Mo_needOf_94 : decode c_Mo_needOf 94 = .ok (.iload_n 1, 1) := by decide +kernel
theorem d_Mo_needOf_95 : decode c_Mo_needOf 95 = .ok (.aload_n 0, 1) := by decide +kernel
theorem d_Mo_needOf_96 : decode c_Mo_needOf 96 = .ok (.getfield 67, 3) := by decide +kernel
theorem d_Mo_needOf_99 : decode c_Mo_needOf 99 = .ok (.iload 4, 2) := by decide +kernel
theorem d_Mo_needOf_101 : decode c_Mo_needOf 101 = .ok (.iaload, 1) := by decide +kernel
theorem d_Mo_needOf_102 : decode c_Mo_needOf 102 = .ok (.aload_n 0, 1) := by decide +kernel
theorem d_Mo_needOf_103 : decode c_Mo_needOf 103 = .ok (.getfield 70, 3) := by decide +kernel
theorem d_Mo_needOf_106 : decode c_Mo_needOf 106 = .ok (.iload 4, 2) := by decide +kernel
theorem d_Mo_needOf_108 : decode c_Mo_needOf 108 = .ok (.iaload, 1) := by decide +kernel
theorem d_Mo_needOf_109 : decode c_Mo_needOf 109 = .ok (.aload_n 0, 1) := by decide +kernel
theorem d_Mo_needOf_110 : decode c_Mo_needOf 110 = .ok (.getfield 73, 3) := by decide +kernel
theorem d_Mo_needOf_113 : decode c_Mo_needOf 113 = .ok (.iload 4, 2) := by decide +kernel
theorem d_Mo_needOf_115 : decode c_Mo_needOf 115 = .ok (.iaload, 1) := by decide +kernel
theorem d_Mo_needOf_116 : decode c_Mo_needOf 116 = .ok (.invokevirtual 254, 3) := by decide +kernel
theorem d_Mo_needOf_119 : decode c_Mo_needOf 119 = .ok (.goto 29, 3) := by decide +kernel
theorem d_Mo_needOf_122 : decode c_Mo_needOf 122 = .ok (.aload_n 0, 1) := by decide +kernel
theorem d_Mo_needOf_123 : decode c_Mo_needOf 123 = .ok (.iload_n 1, 1) := by decide +kernel
theorem d_Mo_needOf_124 : decode c_Mo_needOf 124 = .ok (.aload_n 0, 1) := by decide +kernel
theorem d_Mo_needOf_125 : decode c_Mo_needOf 125 = .ok (.getfield 67, 3) := by decide +kernel
theorem d_Mo_needOf_128 : decode c_Mo_needOf 128 = .ok (.iload 4, 2) := by decide +kernel
theorem d_Mo_needOf_130 : decode c_Mo_needOf 130 = .ok (.iaload, 1) := by decide +kernel
theorem d_Mo_needOf_131 : decode c_Mo_needOf 131 = .ok (.aload_n 0, 1) := by decide +kernel
theorem d_Mo_needOf_132 : decode c_Mo_needOf 132 = .ok (.getfield 70, 3) := by decide +kernel
theorem d_Mo_needOf_135 : decode c_Mo_needOf 135 = .ok (.iload 4, 2) := by decide +kernel
theorem d_Mo_needOf_137 : decode c_Mo_needOf 137 = .ok (.iaload, 1) := by decide +kernel
theorem d_Mo_needOf_138 : decode c_Mo_needOf 138 = .ok (.aload_n 0, 1) := by decide +kernel
theorem d_Mo_needOf_139 : decode c_Mo_needOf 139 = .ok (.getfield 73, 3) := by decide +kernel
theorem d_Mo_needOf_142 : decode c_Mo_needOf 142 = .ok (.iload 4, 2) := by decide +kernel
theorem d_Mo_needOf_144 : decode c_Mo_needOf 144 = .ok (.iaload, 1) := by decide +kernel
theorem d_Mo_needOf_145 : decode c_Mo_needOf 145 = .ok (.invokevirtual 257, 3) := by decide +kernel
theorem d_Mo_needOf_148 : decode c_Mo_needOf 148 = .ok (.goto (-130), 3) := by decide +kernel
theorem d_Mo_needOf_151 : decode c_Mo_needOf 151 = .ok (.aload_n 0, 1) := by decide +kernel
theorem d_Mo_needOf_152 : decode c_Mo_needOf 152 = .ok (.getfield 241, 3) := by decide +kernel
theorem d_Mo_needOf_155 : decode c_Mo_needOf 155 = .ok (.ireturn, 1) := by decide +kernel
set_option maxRecDepth 100000 in
set_option maxHeartbeats 16000000 in
/-- needOf(f9, g9, e9) -/
theorem g_Mo_needOf (l : Launch) (G : va_G) (k : Nat → ClassId) (h0 : Nat) (s0 : Nat) (f9 : Nat) (g9 : Nat) (e9 : Nat) (q9 : Nat) (nf : Nat) (un : Nat) (co9 : Nat) (fl : Nat) (bk : Nat) (ma : Nat → Nat) (iv : Nat → Int32) (co : Int64) (tk : Nat → Nat) (fs : Nat → Nat) (En : Nat → Nat) (wd : Nat → Int32) (L : Nat → Int64) (sm : Nat → Int64) (NB : Nat → Nat) (NA : Nat → Nat) (NK : Nat → Nat) (NP : Nat → Nat) (NQ : Nat → Nat) (hf : f9 < 4) (hnf : nf ≤ 4) (htk : ∀ g, g < 4 → tk g ≤ 3) (hw : wf (wdF wd f9) tk nf (enF En f9) 16 (tk f9) 0 q9) (hq : q9 ≤ 200) (hnd : bk + nd (wdF wd f9) (enF En f9) 16 0 ≤ 40) (hfs : ∀ g, g < nf → fs g + tk g + 2 < 40) (hg : g9 < 22 * bk ∨ (880 ≤ g9 ∧ g9 < 902)) (he : e9 < 22 * bk ∨ (880 ≤ e9 ∧ e9 < 902)) (hg1 : lz L g9 ≤ 1) (he1 : lz L e9 ≤ 1) (hflo : flO un co9 fl) (hsm : smO co9 sm) (hun : un + 20 * nd (wdF wd f9) (enF En f9) 16 0 ≤ 9000) (hco : co9 + 40 * nd (wdF wd f9) (enF En f9) 16 0 ≤ 9000) : CI l y_Mo_needOf c_Mo_needOf 6 .int { frames := 4, cells := 0, slots := 0, locals := 110 } [.ref h0, .int (nI f9), .int (nI (g9 * 41)), .int (nI (e9 * 41))] G k s0 [(h0, .inr (8, moL ma (va_up (va_up (va_up (va_up iv 14 (nI un)) 15 (nI co9)) 16 (nI fl)) 13 (nI bk)) co)), ((ma 0), .inl (k 0, 4, .inl (fun i => nI (tk i)))), ((ma 1), .inl (k 0, 800, .inl wd)), ((ma 3), .inl (k 0, 800, .inl (fun i => nI (En i)))), ((ma 14), .inl (k 0, 4, .inl (fun i => nI (fs i)))), ((ma 13), .inl (k 1, 36982, .inr (.inl L))), ((ma 15), .inl (k 1, 3690, .inr (.inl sm))), ((ma 16), .inl (k 0, 20, .inl (fun i => nI (NB i)))), ((ma 17), .inl (k 0, 20, .inl (fun i => nI (NA i)))), ((ma 18), .inl (k 0, 20, .inl (fun i => nI (NK i)))), ((ma 19), .inl (k 0, 20, .inl (fun i => nI (NP i)))), ((ma 20), .inl (k 0, 20, .inl (fun i => nI (NQ i))))] (fun (r : Int32) (u : (Nat → Int64) × (Nat → Int64) × Nat × (Nat → Nat → Nat) × Nat) => r = nI bk ∧ flO (un + ucT (wdF wd f9) tk (enF En f9) 16 (tk f9) 0) (co9 + ccT (wdF wd f9) tk (enF En f9) 16 (tk f9) 0) u.2.2.1 ∧ smO (co9 + ccT (wdF wd f9) tk (enF En f9) 16 (tk f9) 0) u.2.1 ∧ tn u.1 bk ≤ 1 + 20 * nd (wdF wd f9) (enF En f9) 16 0 ∧ lz u.1 (22 * bk + 19) ≤ 1 + 1000 * nd (wdF wd f9) (enF En f9) 16 0) (fun u => [(h0, .inr (8, moL ma (va_up (va_up (va_up (va_up (va_up (va_up iv 14 (nI (un + ucT (wdF wd f9) tk (enF En f9) 16 (tk f9) 0))) 15 (nI (co9 + ccT (wdF wd f9) tk (enF En f9) 16 (tk f9) 0))) 16 (nI u.2.2.1)) 13 (nI u.2.2.2.2)) 17 0) 18 (nI bk)) co)), ((ma 0), .inl (k 0, 4, .inl (fun i => nI (tk i)))), ((ma 1), .inl (k 0, 800, .inl wd)), ((ma 3), .inl (k 0, 800, .inl (fun i => nI (En i)))), ((ma 14), .inl (k 0, 4, .inl (fun i => nI (fs i)))), ((ma 13), .inl (k 1, 36982, .inr (.inl u.1))), ((ma 15), .inl (k 1, 3690, .inr (.inl u.2.1))), ((ma 16), .inl (k 0, 20, .inl (fun i => nI (u.2.2.2.1 0 i)))), ((ma 17), .inl (k 0, 20, .inl (fun i => nI (u.2.2.2.1 1 i)))), ((ma 18), .inl (k 0, 20, .inl (fun i => nI (u.2.2.2.1 2 i)))), ((ma 19), .inl (k 0, 20, .inl (fun i => nI (u.2.2.2.1 3 i)))), ((ma 20), .inl (k 0, 20, .inl (fun i => nI (u.2.2.2.1 4 i))))]) 0 0 := by
  refine met_start (by decide) (Nat.le_of_ble_eq_true rfl) ?_
  intro p e s m below meth c C K hA hsz S ls hl
  generalize va_A [(h0, .inr (8, moL ma (va_up (va_up (va_up (va_up iv 14 (nI un)) 15 (nI co9)) 16 (nI fl)) 13 (nI bk)) co)), ((ma 0), .inl (k 0, 4, .inl (fun i => nI (tk i)))), ((ma 1), .inl (k 0, 800, .inl wd)), ((ma 3), .inl (k 0, 800, .inl (fun i => nI (En i)))), ((ma 14), .inl (k 0, 4, .inl (fun i => nI (fs i)))), ((ma 13), .inl (k 1, 36982, .inr (.inl L))), ((ma 15), .inl (k 1, 3690, .inr (.inl sm))), ((ma 16), .inl (k 0, 20, .inl (fun i => nI (NB i)))), ((ma 17), .inl (k 0, 20, .inl (fun i => nI (NA i)))), ((ma 18), .inl (k 0, 20, .inl (fun i => nI (NK i)))), ((ma 19), .inl (k 0, 20, .inl (fun i => nI (NP i)))), ((ma 20), .inl (k 0, 20, .inl (fun i => nI (NQ i))))] s0 = A at hA S ⊢
  have hx := C.1
  have hb := C.2.1
  have hl : lv_has ls 6 [(0, .ref h0), (1, .int (nI f9)), (2, .int (nI (g9 * 41))), (3, .int (nI (e9 * 41)))] := hl
  have main : ∀ (fu p1 q1 kn1 : Nat), wf (wdF wd f9) tk nf (enF En f9) fu kn1 p1 q1 → q1 ≤ 200 → ∀ (n1 b1 un1 co1 fl1 k1 : Nat) (r1 : Int32) (G1 D1 : Nat) (L1 s1 : Nat → Int64) (NB1 NA1 NK1 NP1 NQ1 : Nat → Nat), (NB1 n1 = b1) → (NA1 n1 = p1) → (NK1 n1 = kn1) → (NP1 n1 = 0) → (k1 = b1 + 1) → (b1 + nd (wdF wd f9) (enF En f9) fu p1 ≤ 40) → (n1 + fu ≤ 17) → (kn1 + fu ≤ 19) → (flO un1 co1 fl1) → (smO co1 s1) → (un1 + 20 * nd (wdF wd f9) (enF En f9) fu p1 ≤ 9000) → (co1 + 40 * nd (wdF wd f9) (enF En f9) fu p1 ≤ 9000) → (∀ k9, k9 < 20 → lz L1 (22 * b1 + k9) = 0) → (lz L1 (22 * b1 + 20) ≤ G1) → (lz L1 (22 * b1 + 21) ≤ D1) → (G1 + 20 * nd (wdF wd f9) (enF En f9) fu p1 ≤ 900) → (D1 + 1000 * nd (wdF wd f9) (enF En f9) fu p1 ≤ 42000) → (∀ (un2 co2 fl2 k2 : Nat) (L2 s2 : Nat → Int64) (NB2 NA2 NK2 NP2 NQ2 : Nat → Nat), un2 = un1 + ucT (wdF wd f9) tk (enF En f9) fu kn1 p1 → co2 = co1 + ccT (wdF wd f9) tk (enF En f9) fu kn1 p1 → flO un2 co2 fl2 → smO co2 s2 → k2 = b1 + nd (wdF wd f9) (enF En f9) fu p1 → tn L2 b1 ≤ G1 + 20 * nd (wdF wd f9) (enF En f9) fu p1 → lz L2 (22 * b1 + 19) ≤ D1 + 1000 * nd (wdF wd f9) (enF En f9) fu p1 → (∀ x, x < 22 * b1 ∨ 880 ≤ x → lz L2 x = lz L1 x) → (∀ i, i < n1 → NB2 i = NB1 i ∧ NA2 i = NA1 i ∧ NK2 i = NK1 i ∧ NP2 i = NP1 i ∧ NQ2 i = NQ1 i) → ∀ (H : Heap) (locs : List Loc), Sw G A s.heap H locs [(h0, .inr (8, moL ma (va_up (va_up (va_up (va_up (va_up (va_up iv 14 (nI un2)) 15 (nI co2)) 16 (nI fl2)) 13 (nI k2)) 17 (nI n1)) 18 (nI b1)) co)), ((ma 0), .inl (k 0, 4, .inl (fun i => nI (tk i)))), ((ma 1), .inl (k 0, 800, .inl wd)), ((ma 3), .inl (k 0, 800, .inl (fun i => nI (En i)))), ((ma 14), .inl (k 0, 4, .inl (fun i => nI (fs i)))), ((ma 13), .inl (k 1, 36982, .inr (.inl L2))), ((ma 15), .inl (k 1, 3690, .inr (.inl s2))), ((ma 16), .inl (k 0, 20, .inl (fun i => nI (NB2 i)))), ((ma 17), .inl (k 0, 20, .inl (fun i => nI (NA2 i)))), ((ma 18), .inl (k 0, 20, .inl (fun i => nI (NK2 i)))), ((ma 19), .inl (k 0, 20, .inl (fun i => nI (NP2 i)))), ((ma 20), .inl (k 0, 20, .inl (fun i => nI (NQ2 i))))] → ∀ ls : Array Slot, lv_has ls 6 [(0, .ref h0), (1, .int (nI f9)), (2, .int (nI (g9 * 41))), (3, .int (nI (e9 * 41)))] → W p l e { frames := 4, cells := 0, slots := 0, locals := 110 } s m [Value.ref h0, Value.int (nI f9), Value.int (nI (g9 * 41)), Value.int (nI (e9 * 41))].toArray below meth c H locs 0 0 (MQ below (va_Qi (fun (r : Int32) (u : (Nat → Int64) × (Nat → Int64) × Nat × (Nat → Nat → Nat) × Nat) => r = nI bk ∧ flO (un + ucT (wdF wd f9) tk (enF En f9) 16 (tk f9) 0) (co9 + ccT (wdF wd f9) tk (enF En f9) 16 (tk f9) 0) u.2.2.1 ∧ smO (co9 + ccT (wdF wd f9) tk (enF En f9) 16 (tk f9) 0) u.2.1 ∧ tn u.1 bk ≤ 1 + 20 * nd (wdF wd f9) (enF En f9) 16 0 ∧ lz u.1 (22 * bk + 19) ≤ 1 + 1000 * nd (wdF wd f9) (enF En f9) 16 0) (Po G k A (fun u => [(h0, .inr (8, moL ma (va_up (va_up (va_up (va_up (va_up (va_up iv 14 (nI (un + ucT (wdF wd f9) tk (enF En f9) 16 (tk f9) 0))) 15 (nI (co9 + ccT (wdF wd f9) tk (enF En f9) 16 (tk f9) 0))) 16 (nI u.2.2.1)) 13 (nI u.2.2.2.2)) 17 0) 18 (nI bk)) co)), ((ma 0), .inl (k 0, 4, .inl (fun i => nI (tk i)))), ((ma 1), .inl (k 0, 800, .inl wd)), ((ma 3), .inl (k 0, 800, .inl (fun i => nI (En i)))), ((ma 14), .inl (k 0, 4, .inl (fun i => nI (fs i)))), ((ma 13), .inl (k 1, 36982, .inr (.inl u.1))), ((ma 15), .inl (k 1, 3690, .inr (.inl u.2.1))), ((ma 16), .inl (k 0, 20, .inl (fun i => nI (u.2.2.2.1 0 i)))), ((ma 17), .inl (k 0, 20, .inl (fun i => nI (u.2.2.2.1 1 i)))), ((ma 18), .inl (k 0, 20, .inl (fun i => nI (u.2.2.2.1 2 i)))), ((ma 19), .inl (k 0, 20, .inl (fun i => nI (u.2.2.2.1 3 i)))), ((ma 20), .inl (k 0, 20, .inl (fun i => nI (u.2.2.2.1 4 i))))])) A) [Value.ref h0, Value.int (nI f9), Value.int (nI (g9 * 41)), Value.int (nI (e9 * 41))].toArray s 0 0 A) (F0 m 18 ls [])) → ∀ (H : Heap) (locs : List Loc), Sw G A s.heap H locs [(h0, .inr (8, moL ma (va_up (va_up (va_up (va_up (va_up (va_up iv 14 (nI un1)) 15 (nI co1)) 16 (nI fl1)) 13 (nI k1)) 17 (nI (n1 + 1))) 18 r1) co)), ((ma 0), .inl (k 0, 4, .inl (fun i => nI (tk i)))), ((ma 1), .inl (k 0, 800, .inl wd)), ((ma 3), .inl (k 0, 800, .inl (fun i => nI (En i)))), ((ma 14), .inl (k 0, 4, .inl (fun i => nI (fs i)))), ((ma 13), .inl (k 1, 36982, .inr (.inl L1))), ((ma 15), .inl (k 1, 3690, .inr (.inl s1))), ((ma 16), .inl (k 0, 20, .inl (fun i => nI (NB1 i)))), ((ma 17), .inl (k 0, 20, .inl (fun i => nI (NA1 i)))), ((ma 18), .inl (k 0, 20, .inl (fun i => nI (NK1 i)))), ((ma 19), .inl (k 0, 20, .inl (fun i => nI (NP1 i)))), ((ma 20), .inl (k 0, 20, .inl (fun i => nI (NQ1 i))))] → ∀ ls : Array Slot, lv_has ls 6 [(0, .ref h0), (1, .int (nI f9)), (2, .int (nI (g9 * 41))), (3, .int (nI (e9 * 41)))] → W p l e { frames := 4, cells := 0, slots := 0, locals := 110 } s m [Value.ref h0, Value.int (nI f9), Value.int (nI (g9 * 41)), Value.int (nI (e9 * 41))].toArray below meth c H locs 0 0 (MQ below (va_Qi (fun (r : Int32) (u : (Nat → Int64) × (Nat → Int64) × Nat × (Nat → Nat → Nat) × Nat) => r = nI bk ∧ flO (un + ucT (wdF wd f9) tk (enF En f9) 16 (tk f9) 0) (co9 + ccT (wdF wd f9) tk (enF En f9) 16 (tk f9) 0) u.2.2.1 ∧ smO (co9 + ccT (wdF wd f9) tk (enF En f9) 16 (tk f9) 0) u.2.1 ∧ tn u.1 bk ≤ 1 + 20 * nd (wdF wd f9) (enF En f9) 16 0 ∧ lz u.1 (22 * bk + 19) ≤ 1 + 1000 * nd (wdF wd f9) (enF En f9) 16 0) (Po G k A (fun u => [(h0, .inr (8, moL ma (va_up (va_up (va_up (va_up (va_up (va_up iv 14 (nI (un + ucT (wdF wd f9) tk (enF En f9) 16 (tk f9) 0))) 15 (nI (co9 + ccT (wdF wd f9) tk (enF En f9) 16 (tk f9) 0))) 16 (nI u.2.2.1)) 13 (nI u.2.2.2.2)) 17 0) 18 (nI bk)) co)), ((ma 0), .inl (k 0, 4, .inl (fun i => nI (tk i)))), ((ma 1), .inl (k 0, 800, .inl wd)), ((ma 3), .inl (k 0, 800, .inl (fun i => nI (En i)))), ((ma 14), .inl (k 0, 4, .inl (fun i => nI (fs i)))), ((ma 13), .inl (k 1, 36982, .inr (.inl u.1))), ((ma 15), .inl (k 1, 3690, .inr (.inl u.2.1))), ((ma 16), .inl (k 0, 20, .inl (fun i => nI (u.2.2.2.1 0 i)))), ((ma 17), .inl (k 0, 20, .inl (fun i => nI (u.2.2.2.1 1 i)))), ((ma 18), .inl (k 0, 20, .inl (fun i => nI (u.2.2.2.1 2 i)))), ((ma 19), .inl (k 0, 20, .inl (fun i => nI (u.2.2.2.1 3 i)))), ((ma 20), .inl (k 0, 20, .inl (fun i => nI (u.2.2.2.1 4 i))))])) A) [Value.ref h0, Value.int (nI f9), Value.int (nI (g9 * 41)), Value.int (nI (e9 * 41))].toArray s 0 0 A) (F0 m 18 ls []) := by
    intro fu
    induction fu with
    | zero => intro p1 q1 kn1 hw1; exact hw1.elim
    | succ fu ih =>
      intro p1 q1 kn1 hw1 hq1 n1 b1 un1 co1 fl1 k1 r1 G1 D1 L1 s1 NB1 NA1 NK1 NP1 NQ1 h1 h2 h3 h4 hk1 hrm hdp hkn hfo hs1 hu1 hc1 hz1 hG1 hD1 hGb hDb kont H locs S ls hl
      have hlt := wf_lt _ _ _ _ hw1
      have hnp := nd_pos hw1
      obtain ⟨hE1, hw1⟩ := hw1
      subst hk1
      rcases hw1 with hw1 | hw1 | hw1 | hw1 | hw1 | hw1 | hw1
      · obtain ⟨hk, hq9⟩ := hw1
        have ct := ct_01 (tk := tk) (E := (enF En f9)) (fu := fu) (kn := kn1) (Or.inl hk)
        rw [ct.1] at hrm hu1 hc1 hGb hDb
        rw [ct.1, ct.2.1, ct.2.2] at kont
        have hn20 : n1 < 20 := by omega
        refine lv_aload_n hx hb d_Mo_needOf_18 rfl (lv_at hl 0 rfl) ?_
        refine r_get C K S 0 rfl rfl clOk_Mo 34 (by decide) wf_Mo_221 (v := .int (nI (n1 + 1))) rfl d_Mo_needOf_19 ?_
        refine z_if_le (a := (n1 + 1)) (tgt := 151) hx hb d_Mo_needOf_22 (by decide) (by omega) (fun hc1 => False.elim (by omega)) (fun hc1 => ?_)
        refine lv_aload_n hx hb d_Mo_needOf_25 rfl (lv_at hl 0 rfl) ?_
        refine r_get C K S 0 rfl rfl clOk_Mo 34 (by decide) wf_Mo_221 (v := .int (nI (n1 + 1))) rfl d_Mo_needOf_26 ?_
        refine lv_iconst (v := 1) hx hb d_Mo_needOf_29 (by decide) ?_
        refine z_isub (x := nI (n1 + 1)) (y := 1) (v := nI (n1 + 1 - 1)) hx hb d_Mo_needOf_30 (pk_sub (a := (n1 + 1)) (b := 1) (by omega)) ?_
        rw [show n1 + 1 - 1 = n1 from rfl]
        refine lv_istore (lv' := [(4, .int (nI n1)), (0, .ref h0), (1, .int (nI f9)), (2, .int (nI (g9 * 41))), (3, .int (nI (e9 * 41)))]) hx hb d_Mo_needOf_31 hl (by decide) rfl (fun ls hl => ?_)
        refine lv_aload_n hx hb d_Mo_needOf_33 rfl (lv_at hl 1 rfl) ?_
        refine r_get C K S 0 rfl rfl clOk_Mo 38 (by decide) wf_Mo_76 (v := .ref (ma 19)) rfl d_Mo_needOf_34 ?_
        refine lv_iload hx hb d_Mo_needOf_37 (lv_at hl 0 rfl) ?_
        refine r_iald C K S 10 rfl (i := nI n1) (show vp_in (nI n1) _ from vp_in_nI (n := n1) (by omega) (by decide)) (v := nI (NP1 n1)) (by rw [nI_clamp (by omega)]) d_Mo_needOf_39 ?_
        rw [show NP1 n1 = 0 from h4]
        refine lv_istore (lv' := [(5, .int (nI 0)), (4, .int (nI n1)), (0, .ref h0), (1, .int (nI f9)), (2, .int (nI (g9 * 41))), (3, .int (nI (e9 * 41)))]) hx hb d_Mo_needOf_40 hl (by decide) rfl (fun ls hl => ?_)
        refine lv_aload_n hx hb d_Mo_needOf_42 rfl (lv_at hl 2 rfl) ?_
        refine r_get C K S 0 rfl rfl clOk_Mo 38 (by decide) wf_Mo_76 (v := .ref (ma 19)) rfl d_Mo_needOf_43 ?_
        refine lv_iload hx hb d_Mo_needOf_46 (lv_at hl 1 rfl) ?_
        refine lv_dup2_11 hx hb d_Mo_needOf_48 rfl rfl ?_
        refine r_iald C K S 10 rfl (i := nI n1) (show vp_in (nI n1) _ from vp_in_nI (n := n1) (by omega) (by decide)) (v := nI (NP1 n1)) (by rw [nI_clamp (by omega)]) d_Mo_needOf_49 ?_
        rw [show NP1 n1 = 0 from h4]
        refine lv_iconst (v := 1) hx hb d_Mo_needOf_50 (by decide) ?_
        refine z_iadd (x := nI 0) (y := 1) (v := 1) hx hb d_Mo_needOf_51 (show _ = nI (1) from (nI_add 0 1).trans (congrArg nI (by omega))) ?_
        refine r_iast C K S 10 rfl (i := nI n1) (x := 1) (show vp_in (nI n1) _ from vp_in_nI (n := n1) (by omega) (by decide)) (f' := fun i => nI (va_up NP1 n1 1 i)) (ws' := [(h0, .inr (8, moL ma (va_up (va_up (va_up (va_up (va_up (va_up iv 14 (nI un1)) 15 (nI co1)) 16 (nI fl1)) 13 (nI (b1 + 1))) 17 (nI (n1 + 1))) 18 r1) co)), ((ma 0), .inl (k 0, 4, .inl (fun i => nI (tk i)))), ((ma 1), .inl (k 0, 800, .inl wd)), ((ma 3), .inl (k 0, 800, .inl (fun i => nI (En i)))), ((ma 14), .inl (k 0, 4, .inl (fun i => nI (fs i)))), ((ma 13), .inl (k 1, 36982, .inr (.inl L1))), ((ma 15), .inl (k 1, 3690, .inr (.inl s1))), ((ma 16), .inl (k 0, 20, .inl (fun i => nI (NB1 i)))), ((ma 17), .inl (k 0, 20, .inl (fun i => nI (NA1 i)))), ((ma 18), .inl (k 0, 20, .inl (fun i => nI (NK1 i)))), ((ma 19), .inl (k 0, 20, .inl (fun i => nI (va_up NP1 n1 1 i)))), ((ma 20), .inl (k 0, 20, .inl (fun i => nI (NQ1 i))))]) (show upd _ (nI n1 : Int32).toNatClampNeg 1 = _ from upd_nI NP1 (j := n1) (by omega) 1) rfl d_Mo_needOf_52 (fun H locs S => ?_)
        refine lv_iload hx hb d_Mo_needOf_53 (lv_at hl 0 rfl) ?_
        refine z_if_ne (a := 0) (tgt := 87) hx hb d_Mo_needOf_55 (by decide) (by omega) (fun hc2 => False.elim (by omega)) (fun hc2 => ?_)
        refine lv_aload_n hx hb d_Mo_needOf_58 rfl (lv_at hl 2 rfl) ?_
        refine lv_iload_n hx hb d_Mo_needOf_59 rfl (lv_at hl 3 rfl) ?_
        refine lv_aload_n hx hb d_Mo_needOf_60 rfl (lv_at hl 2 rfl) ?_
        refine r_get C K S 0 rfl rfl clOk_Mo 35 (by decide) wf_Mo_67 (v := .ref (ma 16)) rfl d_Mo_needOf_61 ?_
        refine lv_iload hx hb d_Mo_needOf_64 (lv_at hl 1 rfl) ?_
        refine r_iald C K S 7 rfl (i := nI n1) (show vp_in (nI n1) _ from vp_in_nI (n := n1) (by omega) (by decide)) (v := nI (NB1 n1)) (by rw [nI_clamp (by omega)]) d_Mo_needOf_66 ?_
        rw [show NB1 n1 = b1 from h1]
        refine lv_aload_n hx hb d_Mo_needOf_67 rfl (lv_at hl 2 rfl) ?_
        refine r_get C K S 0 rfl rfl clOk_Mo 36 (by decide) wf_Mo_70 (v := .ref (ma 17)) rfl d_Mo_needOf_68 ?_
        refine lv_iload hx hb d_Mo_needOf_71 (lv_at hl 1 rfl) ?_
        refine r_iald C K S 8 rfl (i := nI n1) (show vp_in (nI n1) _ from vp_in_nI (n := n1) (by omega) (by decide)) (v := nI (NA1 n1)) (by rw [nI_clamp (by omega)]) d_Mo_needOf_73 ?_
        rw [show NA1 n1 = p1 from h2]
        refine lv_aload_n hx hb d_Mo_needOf_74 rfl (lv_at hl 2 rfl) ?_
        refine r_get C K S 0 rfl rfl clOk_Mo 37 (by decide) wf_Mo_73 (v := .ref (ma 18)) rfl d_Mo_needOf_75 ?_
        refine lv_iload hx hb d_Mo_needOf_78 (lv_at hl 1 rfl) ?_
        refine r_iald C K S 9 rfl (i := nI n1) (show vp_in (nI n1) _ from vp_in_nI (n := n1) (by omega) (by decide)) (v := nI (NK1 n1)) (by rw [nI_clamp (by omega)]) d_Mo_needOf_80 ?_
        rw [show NK1 n1 = kn1 from h3]
        refine r_backv (wi := [(h0, .inr (8, moL ma (va_up (va_up (va_up (va_up (va_up (va_up iv 14 (nI un1)) 15 (nI co1)) 16 (nI fl1)) 13 (nI (b1 + 1))) 18 r1) 17 (nI (n1 + 1))) co)), ((ma 1), .inl (k 0, 800, .inl wd)), ((ma 13), .inl (k 1, 36982, .inr (.inl L1))), ((ma 16), .inl (k 0, 20, .inl (fun i => nI (NB1 i))))]) (wr := [((ma 0), .inl (k 0, 4, .inl (fun i => nI (tk i)))), ((ma 3), .inl (k 0, 800, .inl (fun i => nI (En i)))), ((ma 14), .inl (k 0, 4, .inl (fun i => nI (fs i)))), ((ma 15), .inl (k 1, 3690, .inr (.inl s1))), ((ma 17), .inl (k 0, 20, .inl (fun i => nI (NA1 i)))), ((ma 18), .inl (k 0, 20, .inl (fun i => nI (NK1 i)))), ((ma 19), .inl (k 0, 20, .inl (fun i => nI (va_up NP1 n1 1 i)))), ((ma 20), .inl (k 0, 20, .inl (fun i => nI (NQ1 i))))]) S hA [0, 2, 5, 7] [1, 3, 4, 6, 8, 9, 10, 11] rfl rfl (by decide) (by decide) (va_runV (As := [.int (nI f9), .int (nI b1), .int (nI p1), .int (nI kn1)]) (rest := []) ⟨hx, hb, C.2.2.1, C.2.2.2.1, C.2.2.2.2.1⟩ (g_Mo_firstOf_0 l G k h0 _ f9 b1 p1 kn1 n1 ma (va_up (va_up (va_up (va_up (va_up iv 14 (nI un1)) 15 (nI co1)) 16 (nI fl1)) 13 (nI (b1 + 1))) 18 r1) co wd L1 NB1 hf (by omega) hn20 (by omega) hk) (k_virt (n := 4) C wc_Mo_firstOf rfl rfl wz_Mo wm_Mo_251 wn_Mo_firstOf ws_Mo_firstOf (by decide +kernel) ⟨(Nat.le_of_ble_eq_true rfl), (Nat.le_of_ble_eq_true rfl)⟩) (pr_nowV K S [0, 2, 5, 7] (by decide) rfl 0 rfl rfl) rfl rfl hl.1 rfl (lv_room (Nat.le_of_ble_eq_true rfl)) d_Mo_needOf_81 ⟨(Nat.le_of_ble_eq_true rfl), (Nat.le_of_ble_eq_true rfl)⟩) (fun lu H locs hw3 S => ?_)
        have S : Sw G A s.heap _ _ [((ma 0), .inl (k 0, 4, .inl (fun i => nI (tk i)))), ((ma 3), .inl (k 0, 800, .inl (fun i => nI (En i)))), ((ma 14), .inl (k 0, 4, .inl (fun i => nI (fs i)))), ((ma 15), .inl (k 1, 3690, .inr (.inl s1))), ((ma 17), .inl (k 0, 20, .inl (fun i => nI (NA1 i)))), ((ma 18), .inl (k 0, 20, .inl (fun i => nI (NK1 i)))), ((ma 19), .inl (k 0, 20, .inl (fun i => nI (va_up NP1 n1 1 i)))), ((ma 20), .inl (k 0, 20, .inl (fun i => nI (NQ1 i)))), (h0, .inr (8, moL ma (va_up (va_up (va_up (va_up (va_up (va_up iv 14 (nI un1)) 15 (nI co1)) 16 (nI fl1)) 13 (nI (b1 + 1))) 17 (nI n1)) 18 (nI (NB1 n1))) co)), ((ma 1), .inl (k 0, 800, .inl wd)), ((ma 13), .inl (k 1, 36982, .inr (.inl lu))), ((ma 16), .inl (k 0, 20, .inl (fun i => nI (NB1 i))))] := S
        have hlu := hw3
        refine lv_goto (tgt := 148) hx hb d_Mo_needOf_84 (by decide) ?_
        refine lv_goto (tgt := 18) hx hb d_Mo_needOf_148 (by decide) ?_
        have S : Sw G A s.heap H locs [((ma 0), .inl (k 0, 4, .inl (fun i => nI (tk i)))), ((ma 3), .inl (k 0, 800, .inl (fun i => nI (En i)))), ((ma 14), .inl (k 0, 4, .inl (fun i => nI (fs i)))), ((ma 15), .inl (k 1, 3690, .inr (.inl s1))), ((ma 17), .inl (k 0, 20, .inl (fun i => nI (NA1 i)))), ((ma 18), .inl (k 0, 20, .inl (fun i => nI (NK1 i)))), ((ma 19), .inl (k 0, 20, .inl (fun i => nI (va_up NP1 n1 1 i)))), ((ma 20), .inl (k 0, 20, .inl (fun i => nI (NQ1 i)))), (h0, .inr (8, moL ma (va_up (va_up (va_up (va_up (va_up (va_up iv 14 (nI un1)) 15 (nI co1)) 16 (nI fl1)) 13 (nI (b1 + 1))) 17 (nI n1)) 18 (nI b1)) co)), ((ma 1), .inl (k 0, 800, .inl wd)), ((ma 13), .inl (k 1, 36982, .inr (.inl lu))), ((ma 16), .inl (k 0, 20, .inl (fun i => nI (NB1 i))))] := by rw [h1] at S; exact S
        exact kont un1 co1 fl1 (b1 + 1) lu s1 NB1 NA1 NK1 (va_up NP1 n1 1) NQ1 rfl rfl hfo hs1 rfl (by rw [tn_zero (fun k9 hk9 => (hlu.2.1 k9 hk9).trans (hz1 k9 (by omega)))]; omega) (by rw [hlu.1]; omega) (fun x hx => hlu.2.2 x (by omega)) (fun i hi => ⟨by rfl, by rfl, by rfl, by rw [up_lt hi], by rfl⟩) _ _ (S.sub [8, 0, 9, 1, 2, 10, 3, 11, 4, 5, 6, 7] (by decide) rfl) ls (lv_sub hl [2, 3, 4, 5] rfl)
      · obtain ⟨hk, ⟨v9, hv, hv2⟩, hq9⟩ := hw1
        have ct := ct_01 (tk := tk) (E := (enF En f9)) (fu := fu) (kn := kn1) (Or.inr hk)
        rw [ct.1] at hrm hu1 hc1 hGb hDb
        rw [ct.1, ct.2.1, ct.2.2] at kont
        have hn20 : n1 < 20 := by omega
        refine lv_aload_n hx hb d_Mo_needOf_18 rfl (lv_at hl 0 rfl) ?_
        refine r_get C K S 0 rfl rfl clOk_Mo 34 (by decide) wf_Mo_221 (v := .int (nI (n1 + 1))) rfl d_Mo_needOf_19 ?_
        refine z_if_le (a := (n1 + 1)) (tgt := 151) hx hb d_Mo_needOf_22 (by decide) (by omega) (fun hc4 => False.elim (by omega)) (fun hc4 => ?_)
        refine lv_aload_n hx hb d_Mo_needOf_25 rfl (lv_at hl 0 rfl) ?_
        refine r_get C K S 0 rfl rfl clOk_Mo 34 (by decide) wf_Mo_221 (v := .int (nI (n1 + 1))) rfl d_Mo_needOf_26 ?_
        refine lv_iconst (v := 1) hx hb d_Mo_needOf_29 (by decide) ?_
        refine z_isub (x := nI (n1 + 1)) (y := 1) (v := nI (n1 + 1 - 1)) hx hb d_Mo_needOf_30 (pk_sub (a := (n1 + 1)) (b := 1) (by omega)) ?_
        rw [show n1 + 1 - 1 = n1 from rfl]
        refine lv_istore (lv' := [(4, .int (nI n1)), (0, .ref h0), (1, .int (nI f9)), (2, .int (nI (g9 * 41))), (3, .int (nI (e9 * 41)))]) hx hb d_Mo_needOf_31 hl (by decide) rfl (fun ls hl => ?_)
        refine lv_aload_n hx hb d_Mo_needOf_33 rfl (lv_at hl 1 rfl) ?_
        refine r_get C K S 0 rfl rfl clOk_Mo 38 (by decide) wf_Mo_76 (v := .ref (ma 19)) rfl d_Mo_needOf_34 ?_
        refine lv_iload hx hb d_Mo_needOf_37 (lv_at hl 0 rfl) ?_
        refine r_iald C K S 10 rfl (i := nI n1) (show vp_in (nI n1) _ from vp_in_nI (n := n1) (by omega) (by decide)) (v := nI (NP1 n1)) (by rw [nI_clamp (by omega)]) d_Mo_needOf_39 ?_
        rw [show NP1 n1 = 0 from h4]
        refine lv_istore (lv' := [(5, .int (nI 0)), (4, .int (nI n1)), (0, .ref h0), (1, .int (nI f9)), (2, .int (nI (g9 * 41))), (3, .int (nI (e9 * 41)))]) hx hb d_Mo_needOf_40 hl (by decide) rfl (fun ls hl => ?_)
        refine lv_aload_n hx hb d_Mo_needOf_42 rfl (lv_at hl 2 rfl) ?_
        refine r_get C K S 0 rfl rfl clOk_Mo 38 (by decide) wf_Mo_76 (v := .ref (ma 19)) rfl d_Mo_needOf_43 ?_
        refine lv_iload hx hb d_Mo_needOf_46 (lv_at hl 1 rfl) ?_
        refine lv_dup2_11 hx hb d_Mo_needOf_48 rfl rfl ?_
        refine r_iald C K S 10 rfl (i := nI n1) (show vp_in (nI n1) _ from vp_in_nI (n := n1) (by omega) (by decide)) (v := nI (NP1 n1)) (by rw [nI_clamp (by omega)]) d_Mo_needOf_49 ?_
        rw [show NP1 n1 = 0 from h4]
        refine lv_iconst (v := 1) hx hb d_Mo_needOf_50 (by decide) ?_
        refine z_iadd (x := nI 0) (y := 1) (v := 1) hx hb d_Mo_needOf_51 (show _ = nI (1) from (nI_add 0 1).trans (congrArg nI (by omega))) ?_
        refine r_iast C K S 10 rfl (i := nI n1) (x := 1) (show vp_in (nI n1) _ from vp_in_nI (n := n1) (by omega) (by decide)) (f' := fun i => nI (va_up NP1 n1 1 i)) (ws' := [(h0, .inr (8, moL ma (va_up (va_up (va_up (va_up (va_up (va_up iv 14 (nI un1)) 15 (nI co1)) 16 (nI fl1)) 13 (nI (b1 + 1))) 17 (nI (n1 + 1))) 18 r1) co)), ((ma 0), .inl (k 0, 4, .inl (fun i => nI (tk i)))), ((ma 1), .inl (k 0, 800, .inl wd)), ((ma 3), .inl (k 0, 800, .inl (fun i => nI (En i)))), ((ma 14), .inl (k 0, 4, .inl (fun i => nI (fs i)))), ((ma 13), .inl (k 1, 36982, .inr (.inl L1))), ((ma 15), .inl (k 1, 3690, .inr (.inl s1))), ((ma 16), .inl (k 0, 20, .inl (fun i => nI (NB1 i)))), ((ma 17), .inl (k 0, 20, .inl (fun i => nI (NA1 i)))), ((ma 18), .inl (k 0, 20, .inl (fun i => nI (NK1 i)))), ((ma 19), .inl (k 0, 20, .inl (fun i => nI (va_up NP1 n1 1 i)))), ((ma 20), .inl (k 0, 20, .inl (fun i => nI (NQ1 i))))]) (show upd _ (nI n1 : Int32).toNatClampNeg 1 = _ from upd_nI NP1 (j := n1) (by omega) 1) rfl d_Mo_needOf_52 (fun H locs S => ?_)
        refine lv_iload hx hb d_Mo_needOf_53 (lv_at hl 0 rfl) ?_
        refine z_if_ne (a := 0) (tgt := 87) hx hb d_Mo_needOf_55 (by decide) (by omega) (fun hc5 => False.elim (by omega)) (fun hc5 => ?_)
        refine lv_aload_n hx hb d_Mo_needOf_58 rfl (lv_at hl 2 rfl) ?_
        refine lv_iload_n hx hb d_Mo_needOf_59 rfl (lv_at hl 3 rfl) ?_
        refine lv_aload_n hx hb d_Mo_needOf_60 rfl (lv_at hl 2 rfl) ?_
        refine r_get C K S 0 rfl rfl clOk_Mo 35 (by decide) wf_Mo_67 (v := .ref (ma 16)) rfl d_Mo_needOf_61 ?_
        refine lv_iload hx hb d_Mo_needOf_64 (lv_at hl 1 rfl) ?_
        refine r_iald C K S 7 rfl (i := nI n1) (show vp_in (nI n1) _ from vp_in_nI (n := n1) (by omega) (by decide)) (v := nI (NB1 n1)) (by rw [nI_clamp (by omega)]) d_Mo_needOf_66 ?_
        rw [show NB1 n1 = b1 from h1]
        refine lv_aload_n hx hb d_Mo_needOf_67 rfl (lv_at hl 2 rfl) ?_
        refine r_get C K S 0 rfl rfl clOk_Mo 36 (by decide) wf_Mo_70 (v := .ref (ma 17)) rfl d_Mo_needOf_68 ?_
        refine lv_iload hx hb d_Mo_needOf_71 (lv_at hl 1 rfl) ?_
        refine r_iald C K S 8 rfl (i := nI n1) (show vp_in (nI n1) _ from vp_in_nI (n := n1) (by omega) (by decide)) (v := nI (NA1 n1)) (by rw [nI_clamp (by omega)]) d_Mo_needOf_73 ?_
        rw [show NA1 n1 = p1 from h2]
        refine lv_aload_n hx hb d_Mo_needOf_74 rfl (lv_at hl 2 rfl) ?_
        refine r_get C K S 0 rfl rfl clOk_Mo 37 (by decide) wf_Mo_73 (v := .ref (ma 18)) rfl d_Mo_needOf_75 ?_
        refine lv_iload hx hb d_Mo_needOf_78 (lv_at hl 1 rfl) ?_
        refine r_iald C K S 9 rfl (i := nI n1) (show vp_in (nI n1) _ from vp_in_nI (n := n1) (by omega) (by decide)) (v := nI (NK1 n1)) (by rw [nI_clamp (by omega)]) d_Mo_needOf_80 ?_
        rw [show NK1 n1 = kn1 from h3]
        refine r_backv (wi := [(h0, .inr (8, moL ma (va_up (va_up (va_up (va_up (va_up (va_up iv 14 (nI un1)) 15 (nI co1)) 16 (nI fl1)) 13 (nI (b1 + 1))) 18 r1) 17 (nI (n1 + 1))) co)), ((ma 1), .inl (k 0, 800, .inl wd)), ((ma 13), .inl (k 1, 36982, .inr (.inl L1))), ((ma 16), .inl (k 0, 20, .inl (fun i => nI (NB1 i))))]) (wr := [((ma 0), .inl (k 0, 4, .inl (fun i => nI (tk i)))), ((ma 3), .inl (k 0, 800, .inl (fun i => nI (En i)))), ((ma 14), .inl (k 0, 4, .inl (fun i => nI (fs i)))), ((ma 15), .inl (k 1, 3690, .inr (.inl s1))), ((ma 17), .inl (k 0, 20, .inl (fun i => nI (NA1 i)))), ((ma 18), .inl (k 0, 20, .inl (fun i => nI (NK1 i)))), ((ma 19), .inl (k 0, 20, .inl (fun i => nI (va_up NP1 n1 1 i)))), ((ma 20), .inl (k 0, 20, .inl (fun i => nI (NQ1 i))))]) S hA [0, 2, 5, 7] [1, 3, 4, 6, 8, 9, 10, 11] rfl rfl (by decide) (by decide) (va_runV (As := [.int (nI f9), .int (nI b1), .int (nI p1), .int (nI kn1)]) (rest := []) ⟨hx, hb, C.2.2.1, C.2.2.2.1, C.2.2.2.2.1⟩ (g_Mo_firstOf_1 l G k h0 _ f9 b1 p1 kn1 n1 v9 ma (va_up (va_up (va_up (va_up (va_up iv 14 (nI un1)) 15 (nI co1)) 16 (nI fl1)) 13 (nI (b1 + 1))) 18 r1) co wd L1 NB1 hf (by omega) hn20 (by omega) hk hv (by omega)) (k_virt (n := 4) C wc_Mo_firstOf rfl rfl wz_Mo wm_Mo_251 wn_Mo_firstOf ws_Mo_firstOf (by decide +kernel) ⟨(Nat.le_of_ble_eq_true rfl), (Nat.le_of_ble_eq_true rfl)⟩) (pr_nowV K S [0, 2, 5, 7] (by decide) rfl 0 rfl rfl) rfl rfl hl.1 rfl (lv_room (Nat.le_of_ble_eq_true rfl)) d_Mo_needOf_81 ⟨(Nat.le_of_ble_eq_true rfl), (Nat.le_of_ble_eq_true rfl)⟩) (fun lu H locs hw6 S => ?_)
        have S : Sw G A s.heap _ _ [((ma 0), .inl (k 0, 4, .inl (fun i => nI (tk i)))), ((ma 3), .inl (k 0, 800, .inl (fun i => nI (En i)))), ((ma 14), .inl (k 0, 4, .inl (fun i => nI (fs i)))), ((ma 15), .inl (k 1, 3690, .inr (.inl s1))), ((ma 17), .inl (k 0, 20, .inl (fun i => nI (NA1 i)))), ((ma 18), .inl (k 0, 20, .inl (fun i => nI (NK1 i)))), ((ma 19), .inl (k 0, 20, .inl (fun i => nI (va_up NP1 n1 1 i)))), ((ma 20), .inl (k 0, 20, .inl (fun i => nI (NQ1 i)))), (h0, .inr (8, moL ma (va_up (va_up (va_up (va_up (va_up (va_up iv 14 (nI un1)) 15 (nI co1)) 16 (nI fl1)) 13 (nI (b1 + 1))) 17 (nI n1)) 18 (nI (NB1 n1))) co)), ((ma 1), .inl (k 0, 800, .inl wd)), ((ma 13), .inl (k 1, 36982, .inr (.inl lu))), ((ma 16), .inl (k 0, 20, .inl (fun i => nI (NB1 i))))] := S
        have hlu := hw6
        refine lv_goto (tgt := 148) hx hb d_Mo_needOf_84 (by decide) ?_
        refine lv_goto (tgt := 18) hx hb d_Mo_needOf_148 (by decide) ?_
        have S : Sw G A s.heap H locs [((ma 0), .inl (k 0, 4, .inl (fun i => nI (tk i)))), ((ma 3), .inl (k 0, 800, .inl (fun i => nI (En i)))), ((ma 14), .inl (k 0, 4, .inl (fun i => nI (fs i)))), ((ma 15), .inl (k 1, 3690, .inr (.inl s1))), ((ma 17), .inl (k 0, 20, .inl (fun i => nI (NA1 i)))), ((ma 18), .inl (k 0, 20, .inl (fun i => nI (NK1 i)))), ((ma 19), .inl (k 0, 20, .inl (fun i => nI (va_up NP1 n1 1 i)))), ((ma 20), .inl (k 0, 20, .inl (fun i => nI (NQ1 i)))), (h0, .inr (8, moL ma (va_up (va_up (va_up (va_up (va_up (va_up iv 14 (nI un1)) 15 (nI co1)) 16 (nI fl1)) 13 (nI (b1 + 1))) 17 (nI n1)) 18 (nI b1)) co)), ((ma 1), .inl (k 0, 800, .inl wd)), ((ma 13), .inl (k 1, 36982, .inr (.inl lu))), ((ma 16), .inl (k 0, 20, .inl (fun i => nI (NB1 i))))] := by rw [h1] at S; exact S
        exact kont un1 co1 fl1 (b1 + 1) lu s1 NB1 NA1 NK1 (va_up NP1 n1 1) NQ1 rfl rfl hfo hs1 rfl (Nat.le_trans (tn_one (v := v9) (X := G1) (fun k9 hk9 hne => (hlu.2.1.2 k9 hk9 hne).trans (hz1 k9 (by omega))) (by rw [hlu.2.1.1]; exact hG1)) (by omega)) (by rw [hlu.1]; omega) (fun x hx => hlu.2.2 x (by omega)) (fun i hi => ⟨by rfl, by rfl, by rfl, by rw [up_lt hi], by rfl⟩) _ _ (S.sub [8, 0, 9, 1, 2, 10, 3, 11, 4, 5, 6, 7] (by decide) rfl) ls (lv_sub hl [2, 3, 4, 5] rfl)
      · obtain ⟨hk, hw2⟩ := hw1
        have ct := ct_2 (tk := tk) (E := (enF En f9)) (fu := fu) (kn := kn1) hk
        rw [ct.1] at hrm hu1 hc1 hGb hDb
        rw [ct.1, ct.2.1, ct.2.2] at kont
        have hlt2 := wf_lt _ _ _ _ hw2
        have ne1 := nd_pos hw2
        have hn20 : n1 < 20 := by omega
        refine lv_aload_n hx hb d_Mo_needOf_18 rfl (lv_at hl 0 rfl) ?_
        refine r_get C K S 0 rfl rfl clOk_Mo 34 (by decide) wf_Mo_221 (v := .int (nI (n1 + 1))) rfl d_Mo_needOf_19 ?_
        refine z_if_le (a := (n1 + 1)) (tgt := 151) hx hb d_Mo_needOf_22 (by decide) (by omega) (fun hc7 => False.elim (by omega)) (fun hc7 => ?_)
        refine lv_aload_n hx hb d_Mo_needOf_25 rfl (lv_at hl 0 rfl) ?_
        refine r_get C K S 0 rfl rfl clOk_Mo 34 (by decide) wf_Mo_221 (v := .int (nI (n1 + 1))) rfl d_Mo_needOf_26 ?_
        refine lv_iconst (v := 1) hx hb d_Mo_needOf_29 (by decide) ?_
        refine z_isub (x := nI (n1 + 1)) (y := 1) (v := nI (n1 + 1 - 1)) hx hb d_Mo_needOf_30 (pk_sub (a := (n1 + 1)) (b := 1) (by omega)) ?_
        rw [show n1 + 1 - 1 = n1 from rfl]
        refine lv_istore (lv' := [(4, .int (nI n1)), (0, .ref h0), (1, .int (nI f9)), (2, .int (nI (g9 * 41))), (3, .int (nI (e9 * 41)))]) hx hb d_Mo_needOf_31 hl (by decide) rfl (fun ls hl => ?_)
        refine lv_aload_n hx hb d_Mo_needOf_33 rfl (lv_at hl 1 rfl) ?_
        refine r_get C K S 0 rfl rfl clOk_Mo 38 (by decide) wf_Mo_76 (v := .ref (ma 19)) rfl d_Mo_needOf_34 ?_
        refine lv_iload hx hb d_Mo_needOf_37 (lv_at hl 0 rfl) ?_
        refine r_iald C K S 10 rfl (i := nI n1) (show vp_in (nI n1) _ from vp_in_nI (n := n1) (by omega) (by decide)) (v := nI (NP1 n1)) (by rw [nI_clamp (by omega)]) d_Mo_needOf_39 ?_
        rw [show NP1 n1 = 0 from h4]
        refine lv_istore (lv' := [(5, .int (nI 0)), (4, .int (nI n1)), (0, .ref h0), (1, .int (nI f9)), (2, .int (nI (g9 * 41))), (3, .int (nI (e9 * 41)))]) hx hb d_Mo_needOf_40 hl (by decide) rfl (fun ls hl => ?_)
        refine lv_aload_n hx hb d_Mo_needOf_42 rfl (lv_at hl 2 rfl) ?_
        refine r_get C K S 0 rfl rfl clOk_Mo 38 (by decide) wf_Mo_76 (v := .ref (ma 19)) rfl d_Mo_needOf_43 ?_
        refine lv_iload hx hb d_Mo_needOf_46 (lv_at hl 1 rfl) ?_
        refine lv_dup2_11 hx hb d_Mo_needOf_48 rfl rfl ?_
        refine r_iald C K S 10 rfl (i := nI n1) (show vp_in (nI n1) _ from vp_in_nI (n := n1) (by omega) (by decide)) (v := nI (NP1 n1)) (by rw [nI_clamp (by omega)]) d_Mo_needOf_49 ?_
        rw [show NP1 n1 = 0 from h4]
        refine lv_iconst (v := 1) hx hb d_Mo_needOf_50 (by decide) ?_
        refine z_iadd (x := nI 0) (y := 1) (v := 1) hx hb d_Mo_needOf_51 (show _ = nI (1) from (nI_add 0 1).trans (congrArg nI (by omega))) ?_
        refine r_iast C K S 10 rfl (i := nI n1) (x := 1) (show vp_in (nI n1) _ from vp_in_nI (n := n1) (by omega) (by decide)) (f' := fun i => nI (va_up NP1 n1 1 i)) (ws' := [(h0, .inr (8, moL ma (va_up (va_up (va_up (va_up (va_up (va_up iv 14 (nI un1)) 15 (nI co1)) 16 (nI fl1)) 13 (nI (b1 + 1))) 17 (nI (n1 + 1))) 18 r1) co)), ((ma 0), .inl (k 0, 4, .inl (fun i => nI (tk i)))), ((ma 1), .inl (k 0, 800, .inl wd)), ((ma 3), .inl (k 0, 800, .inl (fun i => nI (En i)))), ((ma 14), .inl (k 0, 4, .inl (fun i => nI (fs i)))), ((ma 13), .inl (k 1, 36982, .inr (.inl L1))), ((ma 15), .inl (k 1, 3690, .inr (.inl s1))), ((ma 16), .inl (k 0, 20, .inl (fun i => nI (NB1 i)))), ((ma 17), .inl (k 0, 20, .inl (fun i => nI (NA1 i)))), ((ma 18), .inl (k 0, 20, .inl (fun i => nI (NK1 i)))), ((ma 19), .inl (k 0, 20, .inl (fun i => nI (va_up NP1 n1 1 i)))), ((ma 20), .inl (k 0, 20, .inl (fun i => nI (NQ1 i))))]) (show upd _ (nI n1 : Int32).toNatClampNeg 1 = _ from upd_nI NP1 (j := n1) (by omega) 1) rfl d_Mo_needOf_52 (fun H locs S => ?_)
        refine lv_iload hx hb d_Mo_needOf_53 (lv_at hl 0 rfl) ?_
        refine z_if_ne (a := 0) (tgt := 87) hx hb d_Mo_needOf_55 (by decide) (by omega) (fun hc8 => False.elim (by omega)) (fun hc8 => ?_)
        refine lv_aload_n hx hb d_Mo_needOf_58 rfl (lv_at hl 2 rfl) ?_
        refine lv_iload_n hx hb d_Mo_needOf_59 rfl (lv_at hl 3 rfl) ?_
        refine lv_aload_n hx hb d_Mo_needOf_60 rfl (lv_at hl 2 rfl) ?_
        refine r_get C K S 0 rfl rfl clOk_Mo 35 (by decide) wf_Mo_67 (v := .ref (ma 16)) rfl d_Mo_needOf_61 ?_
        refine lv_iload hx hb d_Mo_needOf_64 (lv_at hl 1 rfl) ?_
        refine r_iald C K S 7 rfl (i := nI n1) (show vp_in (nI n1) _ from vp_in_nI (n := n1) (by omega) (by decide)) (v := nI (NB1 n1)) (by rw [nI_clamp (by omega)]) d_Mo_needOf_66 ?_
        rw [show NB1 n1 = b1 from h1]
        refine lv_aload_n hx hb d_Mo_needOf_67 rfl (lv_at hl 2 rfl) ?_
        refine r_get C K S 0 rfl rfl clOk_Mo 36 (by decide) wf_Mo_70 (v := .ref (ma 17)) rfl d_Mo_needOf_68 ?_
        refine lv_iload hx hb d_Mo_needOf_71 (lv_at hl 1 rfl) ?_
        refine r_iald C K S 8 rfl (i := nI n1) (show vp_in (nI n1) _ from vp_in_nI (n := n1) (by omega) (by decide)) (v := nI (NA1 n1)) (by rw [nI_clamp (by omega)]) d_Mo_needOf_73 ?_
        rw [show NA1 n1 = p1 from h2]
        refine lv_aload_n hx hb d_Mo_needOf_74 rfl (lv_at hl 2 rfl) ?_
        refine r_get C K S 0 rfl rfl clOk_Mo 37 (by decide) wf_Mo_73 (v := .ref (ma 18)) rfl d_Mo_needOf_75 ?_
        refine lv_iload hx hb d_Mo_needOf_78 (lv_at hl 1 rfl) ?_
        refine r_iald C K S 9 rfl (i := nI n1) (show vp_in (nI n1) _ from vp_in_nI (n := n1) (by omega) (by decide)) (v := nI (NK1 n1)) (by rw [nI_clamp (by omega)]) d_Mo_needOf_80 ?_
        rw [show NK1 n1 = kn1 from h3]
        refine r_backv (wi := [(h0, .inr (8, moL ma (va_up (va_up (va_up (va_up (va_up (va_up iv 14 (nI un1)) 15 (nI co1)) 16 (nI fl1)) 18 r1) 13 (nI (b1 + 1))) 17 (nI (n1 + 1))) co)), ((ma 1), .inl (k 0, 800, .inl wd)), ((ma 3), .inl (k 0, 800, .inl (fun i => nI (En i)))), ((ma 13), .inl (k 1, 36982, .inr (.inl L1))), ((ma 16), .inl (k 0, 20, .inl (fun i => nI (NB1 i)))), ((ma 17), .inl (k 0, 20, .inl (fun i => nI (NA1 i)))), ((ma 18), .inl (k 0, 20, .inl (fun i => nI (NK1 i)))), ((ma 19), .inl (k 0, 20, .inl (fun i => nI (va_up NP1 n1 1 i))))]) (wr := [((ma 0), .inl (k 0, 4, .inl (fun i => nI (tk i)))), ((ma 14), .inl (k 0, 4, .inl (fun i => nI (fs i)))), ((ma 15), .inl (k 1, 3690, .inr (.inl s1))), ((ma 20), .inl (k 0, 20, .inl (fun i => nI (NQ1 i))))]) S hA [0, 2, 3, 5, 7, 8, 9, 10] [1, 4, 6, 11] rfl rfl (by decide) (by decide) (va_runV (As := [.int (nI f9), .int (nI b1), .int (nI p1), .int (nI kn1)]) (rest := []) ⟨hx, hb, C.2.2.1, C.2.2.2.1, C.2.2.2.2.1⟩ (g_Mo_firstOf_2 l G k h0 _ f9 b1 p1 kn1 (b1 + 1) n1 ma (va_up (va_up (va_up (va_up iv 14 (nI un1)) 15 (nI co1)) 16 (nI fl1)) 18 r1) co wd L1 En NB1 NA1 NK1 (va_up NP1 n1 1) hf (by omega) (by omega) (by omega) (by omega) hk) (k_virt (n := 4) C wc_Mo_firstOf rfl rfl wz_Mo wm_Mo_251 wn_Mo_firstOf ws_Mo_firstOf (by decide +kernel) ⟨(Nat.le_of_ble_eq_true rfl), (Nat.le_of_ble_eq_true rfl)⟩) (pr_nowV K S [0, 2, 3, 5, 7, 8, 9, 10] (by decide) rfl 0 rfl rfl) rfl rfl hl.1 rfl (lv_room (Nat.le_of_ble_eq_true rfl)) d_Mo_needOf_81 ⟨(Nat.le_of_ble_eq_true rfl), (Nat.le_of_ble_eq_true rfl)⟩) (fun lu H locs hw9 S => ?_)
        have S : Sw G A s.heap _ _ [((ma 0), .inl (k 0, 4, .inl (fun i => nI (tk i)))), ((ma 14), .inl (k 0, 4, .inl (fun i => nI (fs i)))), ((ma 15), .inl (k 1, 3690, .inr (.inl s1))), ((ma 20), .inl (k 0, 20, .inl (fun i => nI (NQ1 i)))), (h0, .inr (8, moL ma (va_up (va_up (va_up (va_up (va_up (va_up iv 14 (nI un1)) 15 (nI co1)) 16 (nI fl1)) 18 r1) 13 (nI ((b1 + 1) + 1))) 17 (nI (n1 + 1 + 1))) co)), ((ma 1), .inl (k 0, 800, .inl wd)), ((ma 3), .inl (k 0, 800, .inl (fun i => nI (En i)))), ((ma 13), .inl (k 1, 36982, .inr (.inl lu))), ((ma 16), .inl (k 0, 20, .inl (fun i => nI ((va_up NB1 (n1 + 1) (b1 + 1)) i)))), ((ma 17), .inl (k 0, 20, .inl (fun i => nI ((va_up NA1 (n1 + 1) (p1 + 1)) i)))), ((ma 18), .inl (k 0, 20, .inl (fun i => nI ((va_up NK1 (n1 + 1) (kn1)) i)))), ((ma 19), .inl (k 0, 20, .inl (fun i => nI ((va_up (va_up NP1 n1 1) (n1 + 1) 0) i))))] := S
        have hlu := hw9
        refine lv_goto (tgt := 148) hx hb d_Mo_needOf_84 (by decide) ?_
        refine lv_goto (tgt := 18) hx hb d_Mo_needOf_148 (by decide) ?_
        obtain ⟨o1, o2, o3, o4⟩ := hlu
        refine ih _ _ _ hw2 hq1 (n1 + 1) (b1 + 1) un1 co1 fl1 (b1 + 1 + 1) r1 G1 (D1 + G1) lu s1 (va_up NB1 (n1 + 1) (b1 + 1)) (va_up NA1 (n1 + 1) (p1 + 1)) (va_up NK1 (n1 + 1) kn1) (va_up (va_up NP1 n1 1) (n1 + 1) 0) NQ1 (va_up_self _ _ _) (va_up_self _ _ _) (va_up_self _ _ _) (va_up_self _ _ _) rfl (by omega) (by omega) (by omega) hfo hs1 (by omega) (by omega) o1 (by rw [o2]; exact hG1) (Nat.le_trans o3 (by omega)) (by omega) (by omega) (fun un2 co2 fl2 k2 L2 s2 NB2 NA2 NK2 NP2 NQ2 hu2 hc2 hf2 hm2 hk2 ht2 hb2 ho2 ha2 H locs S ls hl => ?_) _ _ (S.sub [4, 0, 5, 6, 1, 7, 2, 8, 9, 10, 11, 3] (by decide) rfl) ls (lv_sub hl [2, 3, 4, 5] rfl)
        have S : Sw G A s.heap H locs [(h0, .inr (8, moL ma (va_up (va_up (va_up (va_up (va_up (va_up iv 14 (nI un2)) 15 (nI co2)) 16 (nI fl2)) 13 (nI k2)) 17 (nI (n1 + 1))) 18 (nI (b1 + 1))) co)), ((ma 0), .inl (k 0, 4, .inl (fun i => nI (tk i)))), ((ma 1), .inl (k 0, 800, .inl wd)), ((ma 3), .inl (k 0, 800, .inl (fun i => nI (En i)))), ((ma 14), .inl (k 0, 4, .inl (fun i => nI (fs i)))), ((ma 13), .inl (k 1, 36982, .inr (.inl L2))), ((ma 15), .inl (k 1, 3690, .inr (.inl s2))), ((ma 16), .inl (k 0, 20, .inl (fun i => nI (NB2 i)))), ((ma 17), .inl (k 0, 20, .inl (fun i => nI (NA2 i)))), ((ma 18), .inl (k 0, 20, .inl (fun i => nI (NK2 i)))), ((ma 19), .inl (k 0, 20, .inl (fun i => nI (NP2 i)))), ((ma 20), .inl (k 0, 20, .inl (fun i => nI (NQ2 i))))] := S
        have x1 := ha2 n1 (by omega)
        have cNB2 : NB2 n1 = b1 := x1.1.trans ((up_lt (by omega)).trans h1)
        have cNA2 : NA2 n1 = p1 := x1.2.1.trans ((up_lt (by omega)).trans h2)
        have cNK2 : NK2 n1 = kn1 := x1.2.2.1.trans ((up_lt (by omega)).trans h3)
        have cNP2 : NP2 n1 = 1 := x1.2.2.2.1.trans ((up_lt (by omega)).trans (va_up_self _ _ _))
        have hn20 : n1 < 20 := by omega
        refine lv_aload_n hx hb d_Mo_needOf_18 rfl (lv_at hl 0 rfl) ?_
        refine r_get C K S 0 rfl rfl clOk_Mo 34 (by decide) wf_Mo_221 (v := .int (nI (n1 + 1))) rfl d_Mo_needOf_19 ?_
        refine z_if_le (a := (n1 + 1)) (tgt := 151) hx hb d_Mo_needOf_22 (by decide) (by omega) (fun hc10 => False.elim (by omega)) (fun hc10 => ?_)
        refine lv_aload_n hx hb d_Mo_needOf_25 rfl (lv_at hl 0 rfl) ?_
        refine r_get C K S 0 rfl rfl clOk_Mo 34 (by decide) wf_Mo_221 (v := .int (nI (n1 + 1))) rfl d_Mo_needOf_26 ?_
        refine lv_iconst (v := 1) hx hb d_Mo_needOf_29 (by decide) ?_
        refine z_isub (x := nI (n1 + 1)) (y := 1) (v := nI (n1 + 1 - 1)) hx hb d_Mo_needOf_30 (pk_sub (a := (n1 + 1)) (b := 1) (by omega)) ?_
        rw [show n1 + 1 - 1 = n1 from rfl]
        refine lv_istore (lv' := [(4, .int (nI n1)), (0, .ref h0), (1, .int (nI f9)), (2, .int (nI (g9 * 41))), (3, .int (nI (e9 * 41)))]) hx hb d_Mo_needOf_31 hl (by decide) rfl (fun ls hl => ?_)
        refine lv_aload_n hx hb d_Mo_needOf_33 rfl (lv_at hl 1 rfl) ?_
        refine r_get C K S 0 rfl rfl clOk_Mo 38 (by decide) wf_Mo_76 (v := .ref (ma 19)) rfl d_Mo_needOf_34 ?_
        refine lv_iload hx hb d_Mo_needOf_37 (lv_at hl 0 rfl) ?_
        refine r_iald C K S 10 rfl (i := nI n1) (show vp_in (nI n1) _ from vp_in_nI (n := n1) (by omega) (by decide)) (v := nI (NP2 n1)) (by rw [nI_clamp (by omega)]) d_Mo_needOf_39 ?_
        rw [show NP2 n1 = 1 from cNP2]
        refine lv_istore (lv' := [(5, .int (nI 1)), (4, .int (nI n1)), (0, .ref h0), (1, .int (nI f9)), (2, .int (nI (g9 * 41))), (3, .int (nI (e9 * 41)))]) hx hb d_Mo_needOf_40 hl (by decide) rfl (fun ls hl => ?_)
        refine lv_aload_n hx hb d_Mo_needOf_42 rfl (lv_at hl 2 rfl) ?_
        refine r_get C K S 0 rfl rfl clOk_Mo 38 (by decide) wf_Mo_76 (v := .ref (ma 19)) rfl d_Mo_needOf_43 ?_
        refine lv_iload hx hb d_Mo_needOf_46 (lv_at hl 1 rfl) ?_
        refine lv_dup2_11 hx hb d_Mo_needOf_48 rfl rfl ?_
        refine r_iald C K S 10 rfl (i := nI n1) (show vp_in (nI n1) _ from vp_in_nI (n := n1) (by omega) (by decide)) (v := nI (NP2 n1)) (by rw [nI_clamp (by omega)]) d_Mo_needOf_49 ?_
        rw [show NP2 n1 = 1 from cNP2]
        refine lv_iconst (v := 1) hx hb d_Mo_needOf_50 (by decide) ?_
        refine z_iadd (x := nI 1) (y := 1) (v := 2) hx hb d_Mo_needOf_51 (show _ = nI (2) from (nI_add 1 1).trans (congrArg nI (by omega))) ?_
        refine r_iast C K S 10 rfl (i := nI n1) (x := 2) (show vp_in (nI n1) _ from vp_in_nI (n := n1) (by omega) (by decide)) (f' := fun i => nI (va_up NP2 n1 2 i)) (ws' := [(h0, .inr (8, moL ma (va_up (va_up (va_up (va_up (va_up (va_up iv 14 (nI un2)) 15 (nI co2)) 16 (nI fl2)) 13 (nI k2)) 17 (nI (n1 + 1))) 18 (nI (b1 + 1))) co)), ((ma 0), .inl (k 0, 4, .inl (fun i => nI (tk i)))), ((ma 1), .inl (k 0, 800, .inl wd)), ((ma 3), .inl (k 0, 800, .inl (fun i => nI (En i)))), ((ma 14), .inl (k 0, 4, .inl (fun i => nI (fs i)))), ((ma 13), .inl (k 1, 36982, .inr (.inl L2))), ((ma 15), .inl (k 1, 3690, .inr (.inl s2))), ((ma 16), .inl (k 0, 20, .inl (fun i => nI (NB2 i)))), ((ma 17), .inl (k 0, 20, .inl (fun i => nI (NA2 i)))), ((ma 18), .inl (k 0, 20, .inl (fun i => nI (NK2 i)))), ((ma 19), .inl (k 0, 20, .inl (fun i => nI (va_up NP2 n1 2 i)))), ((ma 20), .inl (k 0, 20, .inl (fun i => nI (NQ2 i))))]) (show upd _ (nI n1 : Int32).toNatClampNeg 2 = _ from upd_nI NP2 (j := n1) (by omega) 2) rfl d_Mo_needOf_52 (fun H locs S => ?_)
        refine lv_iload hx hb d_Mo_needOf_53 (lv_at hl 0 rfl) ?_
        refine z_if_ne (a := 1) (tgt := 87) hx hb d_Mo_needOf_55 (by decide) (by omega) (fun hc11 => ?_) (fun hc11 => False.elim (by omega))
        refine lv_iload hx hb d_Mo_needOf_87 (lv_at hl 0 rfl) ?_
        refine lv_iconst (v := 1) hx hb d_Mo_needOf_89 (by decide) ?_
        refine z_icmp_ne (a := 1) (b := 1) (tgt := 122) hx hb d_Mo_needOf_90 (by decide) (by omega) (by omega) (fun hc12 => False.elim (by omega)) (fun hc12 => ?_)
        refine lv_aload_n hx hb d_Mo_needOf_93 rfl (lv_at hl 2 rfl) ?_
        refine lv_iload_n hx hb d_Mo_needOf_94 rfl (lv_at hl 3 rfl) ?_
        refine lv_aload_n hx hb d_Mo_needOf_95 rfl (lv_at hl 2 rfl) ?_
        refine r_get C K S 0 rfl rfl clOk_Mo 35 (by decide) wf_Mo_67 (v := .ref (ma 16)) rfl d_Mo_needOf_96 ?_
        refine lv_iload hx hb d_Mo_needOf_99 (lv_at hl 1 rfl) ?_
        refine r_iald C K S 7 rfl (i := nI n1) (show vp_in (nI n1) _ from vp_in_nI (n := n1) (by omega) (by decide)) (v := nI (NB2 n1)) (by rw [nI_clamp (by omega)]) d_Mo_needOf_101 ?_
        rw [show NB2 n1 = b1 from cNB2]
        refine lv_aload_n hx hb d_Mo_needOf_102 rfl (lv_at hl 2 rfl) ?_
        refine r_get C K S 0 rfl rfl clOk_Mo 36 (by decide) wf_Mo_70 (v := .ref (ma 17)) rfl d_Mo_needOf_103 ?_
        refine lv_iload hx hb d_Mo_needOf_106 (lv_at hl 1 rfl) ?_
        refine r_iald C K S 8 rfl (i := nI n1) (show vp_in (nI n1) _ from vp_in_nI (n := n1) (by omega) (by decide)) (v := nI (NA2 n1)) (by rw [nI_clamp (by omega)]) d_Mo_needOf_108 ?_
        rw [show NA2 n1 = p1 from cNA2]
        refine lv_aload_n hx hb d_Mo_needOf_109 rfl (lv_at hl 2 rfl) ?_
        refine r_get C K S 0 rfl rfl clOk_Mo 37 (by decide) wf_Mo_73 (v := .ref (ma 18)) rfl d_Mo_needOf_110 ?_
        refine lv_iload hx hb d_Mo_needOf_113 (lv_at hl 1 rfl) ?_
        refine r_iald C K S 9 rfl (i := nI n1) (show vp_in (nI n1) _ from vp_in_nI (n := n1) (by omega) (by decide)) (v := nI (NK2 n1)) (by rw [nI_clamp (by omega)]) d_Mo_needOf_115 ?_
        rw [show NK2 n1 = kn1 from cNK2]
        refine r_backv (wi := [(h0, .inr (8, moL ma (va_up (va_up (va_up (va_up (va_up (va_up iv 14 (nI un2)) 15 (nI co2)) 16 (nI fl2)) 13 (nI k2)) 17 (nI (n1 + 1))) 18 (nI (b1 + 1))) co)), ((ma 1), .inl (k 0, 800, .inl wd)), ((ma 13), .inl (k 1, 36982, .inr (.inl L2))), ((ma 16), .inl (k 0, 20, .inl (fun i => nI (NB2 i)))), ((ma 20), .inl (k 0, 20, .inl (fun i => nI (NQ2 i))))]) (wr := [((ma 0), .inl (k 0, 4, .inl (fun i => nI (tk i)))), ((ma 3), .inl (k 0, 800, .inl (fun i => nI (En i)))), ((ma 14), .inl (k 0, 4, .inl (fun i => nI (fs i)))), ((ma 15), .inl (k 1, 3690, .inr (.inl s2))), ((ma 17), .inl (k 0, 20, .inl (fun i => nI (NA2 i)))), ((ma 18), .inl (k 0, 20, .inl (fun i => nI (NK2 i)))), ((ma 19), .inl (k 0, 20, .inl (fun i => nI (va_up NP2 n1 2 i))))]) S hA [0, 2, 5, 7, 11] [1, 3, 4, 6, 8, 9, 10] rfl rfl (by decide) (by decide) (va_runV (As := [.int (nI f9), .int (nI b1), .int (nI p1), .int (nI kn1)]) (rest := []) ⟨hx, hb, C.2.2.1, C.2.2.2.1, C.2.2.2.2.1⟩ (g_Mo_secondOf_2 l G k h0 _ f9 b1 p1 kn1 n1 (b1 + 1) ma (va_up (va_up (va_up (va_up iv 14 (nI un2)) 15 (nI co2)) 16 (nI fl2)) 13 (nI k2)) co wd L2 NB2 NQ2 hf (by omega) (by omega) hn20 (by omega) hk) (k_virt (n := 4) C wc_Mo_secondOf rfl rfl wz_Mo wm_Mo_254 wn_Mo_secondOf ws_Mo_secondOf (by decide +kernel) ⟨(Nat.le_of_ble_eq_true rfl), (Nat.le_of_ble_eq_true rfl)⟩) (pr_nowV K S [0, 2, 5, 7, 11] (by decide) rfl 0 rfl rfl) rfl rfl hl.1 rfl (lv_room (Nat.le_of_ble_eq_true rfl)) d_Mo_needOf_116 ⟨(Nat.le_of_ble_eq_true rfl), (Nat.le_of_ble_eq_true rfl)⟩) (fun lw H locs hw13 S => ?_)
        have S : Sw G A s.heap _ _ [((ma 0), .inl (k 0, 4, .inl (fun i => nI (tk i)))), ((ma 3), .inl (k 0, 800, .inl (fun i => nI (En i)))), ((ma 14), .inl (k 0, 4, .inl (fun i => nI (fs i)))), ((ma 15), .inl (k 1, 3690, .inr (.inl s2))), ((ma 17), .inl (k 0, 20, .inl (fun i => nI (NA2 i)))), ((ma 18), .inl (k 0, 20, .inl (fun i => nI (NK2 i)))), ((ma 19), .inl (k 0, 20, .inl (fun i => nI (va_up NP2 n1 2 i)))), (h0, .inr (8, moL ma (va_up (va_up (va_up (va_up (va_up (va_up iv 14 (nI un2)) 15 (nI co2)) 16 (nI fl2)) 13 (nI k2)) 17 (nI n1)) 18 (nI (NB2 n1))) co)), ((ma 1), .inl (k 0, 800, .inl wd)), ((ma 13), .inl (k 1, 36982, .inr (.inl lw))), ((ma 16), .inl (k 0, 20, .inl (fun i => nI (NB2 i)))), ((ma 20), .inl (k 0, 20, .inl (fun i => nI ((va_up NQ2 n1 (b1 + 1)) i))))] := S
        have hlw := hw13
        refine lv_goto (tgt := 148) hx hb d_Mo_needOf_119 (by decide) ?_
        refine lv_goto (tgt := 18) hx hb d_Mo_needOf_148 (by decide) ?_
        have S : Sw G A s.heap H locs [((ma 0), .inl (k 0, 4, .inl (fun i => nI (tk i)))), ((ma 3), .inl (k 0, 800, .inl (fun i => nI (En i)))), ((ma 14), .inl (k 0, 4, .inl (fun i => nI (fs i)))), ((ma 15), .inl (k 1, 3690, .inr (.inl s2))), ((ma 17), .inl (k 0, 20, .inl (fun i => nI (NA2 i)))), ((ma 18), .inl (k 0, 20, .inl (fun i => nI (NK2 i)))), ((ma 19), .inl (k 0, 20, .inl (fun i => nI (va_up NP2 n1 2 i)))), (h0, .inr (8, moL ma (va_up (va_up (va_up (va_up (va_up (va_up iv 14 (nI un2)) 15 (nI co2)) 16 (nI fl2)) 13 (nI k2)) 17 (nI n1)) 18 (nI b1)) co)), ((ma 1), .inl (k 0, 800, .inl wd)), ((ma 13), .inl (k 1, 36982, .inr (.inl lw))), ((ma 16), .inl (k 0, 20, .inl (fun i => nI (NB2 i)))), ((ma 20), .inl (k 0, 20, .inl (fun i => nI ((va_up NQ2 n1 (b1 + 1)) i))))] := by rw [cNB2] at S; exact S
        exact kont un2 co2 fl2 k2 lw s2 NB2 NA2 NK2 (va_up NP2 n1 2) (va_up NQ2 n1 (b1 + 1)) hu2 hc2 hf2 hm2 (by rw [hk2]; omega) (by rw [tn_shift hlw.1]; omega) (by have := hlw.2.1; omega) (fun x hx => by rw [hlw.2.2 x (by omega), ho2 x (by omega)]; exact o4 x (by omega) (by omega)) (fun i hi => ⟨by rw [(ha2 i (by omega)).1, up_lt (by omega)], by rw [(ha2 i (by omega)).2.1, up_lt (by omega)], by rw [(ha2 i (by omega)).2.2.1, up_lt (by omega)], by rw [up_lt hi, (ha2 i (by omega)).2.2.2.1, up_lt (by omega), up_lt hi], by rw [up_lt hi, (ha2 i (by omega)).2.2.2.2]⟩) _ _ (S.sub [7, 0, 8, 1, 2, 9, 3, 10, 4, 5, 6, 11] (by decide) rfl) ls (lv_sub hl [2, 3, 4, 5] rfl)
      · obtain ⟨hk, ⟨v9, hv, hv2⟩, m9, hwe, hwf⟩ := hw1
        have ct := ct_3 (tk := tk) (E := (enF En f9)) (fu := fu) (kn := kn1) hk hv (by omega)
        have hEm : (enF En f9) (p1 + 2) = m9 := wf_end hwe
        rw [hEm] at ct
        rw [ct.1] at hrm hu1 hc1 hGb hDb
        rw [ct.1, ct.2.1, ct.2.2] at kont
        have hlt2 := wf_lt _ _ _ _ hwe
        have hlt3 := wf_lt _ _ _ _ hwf
        have ne1 := nd_pos hwe
        have nf1 := nd_pos hwf
        have hfu : 1 ≤ fu := by cases fu with | zero => exact hwe.elim | succ x => omega
        have ub2 := ucT_le (W := (wdF wd f9)) (tk := tk) (E := (enF En f9)) fu kn1 (p1 + 2) (by omega)
        have ub3 := ucT_le (W := (wdF wd f9)) (tk := tk) (E := (enF En f9)) fu (kn1 + 1) m9 (by omega)
        have hHD : HDn (wdF wd f9) tk nf (nd (wdF wd f9) (enF En f9) fu (p1 + 2) + nd (wdF wd f9) (enF En f9) fu m9) (p1 + 2) q1 := HDn_add (wf_HD hnf _ _ _ _ hwe) (wf_HD hnf _ _ _ _ hwf)
        have hn20 : n1 < 20 := by omega
        refine lv_aload_n hx hb d_Mo_needOf_18 rfl (lv_at hl 0 rfl) ?_
        refine r_get C K S 0 rfl rfl clOk_Mo 34 (by decide) wf_Mo_221 (v := .int (nI (n1 + 1))) rfl d_Mo_needOf_19 ?_
        refine z_if_le (a := (n1 + 1)) (tgt := 151) hx hb d_Mo_needOf_22 (by decide) (by omega) (fun hc14 => False.elim (by omega)) (fun hc14 => ?_)
        refine lv_aload_n hx hb d_Mo_needOf_25 rfl (lv_at hl 0 rfl) ?_
        refine r_get C K S 0 rfl rfl clOk_Mo 34 (by decide) wf_Mo_221 (v := .int (nI (n1 + 1))) rfl d_Mo_needOf_26 ?_
        refine lv_iconst (v := 1) hx hb d_Mo_needOf_29 (by decide) ?_
        refine z_isub (x := nI (n1 + 1)) (y := 1) (v := nI (n1 + 1 - 1)) hx hb d_Mo_needOf_30 (pk_sub (a := (n1 + 1)) (b := 1) (by omega)) ?_
        rw [show n1 + 1 - 1 = n1 from rfl]
        refine lv_istore (lv' := [(4, .int (nI n1)), (0, .ref h0), (1, .int (nI f9)), (2, .int (nI (g9 * 41))), (3, .int (nI (e9 * 41)))]) hx hb d_Mo_needOf_31 hl (by decide) rfl (fun ls hl => ?_)
        refine lv_aload_n hx hb d_Mo_needOf_33 rfl (lv_at hl 1 rfl) ?_
        refine r_get C K S 0 rfl rfl clOk_Mo 38 (by decide) wf_Mo_76 (v := .ref (ma 19)) rfl d_Mo_needOf_34 ?_
        refine lv_iload hx hb d_Mo_needOf_37 (lv_at hl 0 rfl) ?_
        refine r_iald C K S 10 rfl (i := nI n1) (show vp_in (nI n1) _ from vp_in_nI (n := n1) (by omega) (by decide)) (v := nI (NP1 n1)) (by rw [nI_clamp (by omega)]) d_Mo_needOf_39 ?_
        rw [show NP1 n1 = 0 from h4]
        refine lv_istore (lv' := [(5, .int (nI 0)), (4, .int (nI n1)), (0, .ref h0), (1, .int (nI f9)), (2, .int (nI (g9 * 41))), (3, .int (nI (e9 * 41)))]) hx hb d_Mo_needOf_40 hl (by decide) rfl (fun ls hl => ?_)
        refine lv_aload_n hx hb d_Mo_needOf_42 rfl (lv_at hl 2 rfl) ?_
        refine r_get C K S 0 rfl rfl clOk_Mo 38 (by decide) wf_Mo_76 (v := .ref (ma 19)) rfl d_Mo_needOf_43 ?_
        refine lv_iload hx hb d_Mo_needOf_46 (lv_at hl 1 rfl) ?_
        refine lv_dup2_11 hx hb d_Mo_needOf_48 rfl rfl ?_
        refine r_iald C K S 10 rfl (i := nI n1) (show vp_in (nI n1) _ from vp_in_nI (n := n1) (by omega) (by decide)) (v := nI (NP1 n1)) (by rw [nI_clamp (by omega)]) d_Mo_needOf_49 ?_
        rw [show NP1 n1 = 0 from h4]
        refine lv_iconst (v := 1) hx hb d_Mo_needOf_50 (by decide) ?_
        refine z_iadd (x := nI 0) (y := 1) (v := 1) hx hb d_Mo_needOf_51 (show _ = nI (1) from (nI_add 0 1).trans (congrArg nI (by omega))) ?_
        refine r_iast C K S 10 rfl (i := nI n1) (x := 1) (show vp_in (nI n1) _ from vp_in_nI (n := n1) (by omega) (by decide)) (f' := fun i => nI (va_up NP1 n1 1 i)) (ws' := [(h0, .inr (8, moL ma (va_up (va_up (va_up (va_up (va_up (va_up iv 14 (nI un1)) 15 (nI co1)) 16 (nI fl1)) 13 (nI (b1 + 1))) 17 (nI (n1 + 1))) 18 r1) co)), ((ma 0), .inl (k 0, 4, .inl (fun i => nI (tk i)))), ((ma 1), .inl (k 0, 800, .inl wd)), ((ma 3), .inl (k 0, 800, .inl (fun i => nI (En i)))), ((ma 14), .inl (k 0, 4, .inl (fun i => nI (fs i)))), ((ma 13), .inl (k 1, 36982, .inr (.inl L1))), ((ma 15), .inl (k 1, 3690, .inr (.inl s1))), ((ma 16), .inl (k 0, 20, .inl (fun i => nI (NB1 i)))), ((ma 17), .inl (k 0, 20, .inl (fun i => nI (NA1 i)))), ((ma 18), .inl (k 0, 20, .inl (fun i => nI (NK1 i)))), ((ma 19), .inl (k 0, 20, .inl (fun i => nI (va_up NP1 n1 1 i)))), ((ma 20), .inl (k 0, 20, .inl (fun i => nI (NQ1 i))))]) (show upd _ (nI n1 : Int32).toNatClampNeg 1 = _ from upd_nI NP1 (j := n1) (by omega) 1) rfl d_Mo_needOf_52 (fun H locs S => ?_)
        refine lv_iload hx hb d_Mo_needOf_53 (lv_at hl 0 rfl) ?_
        refine z_if_ne (a := 0) (tgt := 87) hx hb d_Mo_needOf_55 (by decide) (by omega) (fun hc15 => False.elim (by omega)) (fun hc15 => ?_)
        refine lv_aload_n hx hb d_Mo_needOf_58 rfl (lv_at hl 2 rfl) ?_
        refine lv_iload_n hx hb d_Mo_needOf_59 rfl (lv_at hl 3 rfl) ?_
        refine lv_aload_n hx hb d_Mo_needOf_60 rfl (lv_at hl 2 rfl) ?_
        refine r_get C K S 0 rfl rfl clOk_Mo 35 (by decide) wf_Mo_67 (v := .ref (ma 16)) rfl d_Mo_needOf_61 ?_
        refine lv_iload hx hb d_Mo_needOf_64 (lv_at hl 1 rfl) ?_
        refine r_iald C K S 7 rfl (i := nI n1) (show vp_in (nI n1) _ from vp_in_nI (n := n1) (by omega) (by decide)) (v := nI (NB1 n1)) (by rw [nI_clamp (by omega)]) d_Mo_needOf_66 ?_
        rw [show NB1 n1 = b1 from h1]
        refine lv_aload_n hx hb d_Mo_needOf_67 rfl (lv_at hl 2 rfl) ?_
        refine r_get C K S 0 rfl rfl clOk_Mo 36 (by decide) wf_Mo_70 (v := .ref (ma 17)) rfl d_Mo_needOf_68 ?_
        refine lv_iload hx hb d_Mo_needOf_71 (lv_at hl 1 rfl) ?_
        refine r_iald C K S 8 rfl (i := nI n1) (show vp_in (nI n1) _ from vp_in_nI (n := n1) (by omega) (by decide)) (v := nI (NA1 n1)) (by rw [nI_clamp (by omega)]) d_Mo_needOf_73 ?_
        rw [show NA1 n1 = p1 from h2]
        refine lv_aload_n hx hb d_Mo_needOf_74 rfl (lv_at hl 2 rfl) ?_
        refine r_get C K S 0 rfl rfl clOk_Mo 37 (by decide) wf_Mo_73 (v := .ref (ma 18)) rfl d_Mo_needOf_75 ?_
        refine lv_iload hx hb d_Mo_needOf_78 (lv_at hl 1 rfl) ?_
        refine r_iald C K S 9 rfl (i := nI n1) (show vp_in (nI n1) _ from vp_in_nI (n := n1) (by omega) (by decide)) (v := nI (NK1 n1)) (by rw [nI_clamp (by omega)]) d_Mo_needOf_80 ?_
        rw [show NK1 n1 = kn1 from h3]
        refine r_backv (wi := [(h0, .inr (8, moL ma (va_up (va_up (va_up (va_up (va_up (va_up iv 14 (nI un1)) 15 (nI co1)) 16 (nI fl1)) 18 r1) 13 (nI (b1 + 1))) 17 (nI (n1 + 1))) co)), ((ma 1), .inl (k 0, 800, .inl wd)), ((ma 3), .inl (k 0, 800, .inl (fun i => nI (En i)))), ((ma 13), .inl (k 1, 36982, .inr (.inl L1))), ((ma 16), .inl (k 0, 20, .inl (fun i => nI (NB1 i)))), ((ma 17), .inl (k 0, 20, .inl (fun i => nI (NA1 i)))), ((ma 18), .inl (k 0, 20, .inl (fun i => nI (NK1 i)))), ((ma 19), .inl (k 0, 20, .inl (fun i => nI (va_up NP1 n1 1 i))))]) (wr := [((ma 0), .inl (k 0, 4, .inl (fun i => nI (tk i)))), ((ma 14), .inl (k 0, 4, .inl (fun i => nI (fs i)))), ((ma 15), .inl (k 1, 3690, .inr (.inl s1))), ((ma 20), .inl (k 0, 20, .inl (fun i => nI (NQ1 i))))]) S hA [0, 2, 3, 5, 7, 8, 9, 10] [1, 4, 6, 11] rfl rfl (by decide) (by decide) (va_runV (As := [.int (nI f9), .int (nI b1), .int (nI p1), .int (nI kn1)]) (rest := []) ⟨hx, hb, C.2.2.1, C.2.2.2.1, C.2.2.2.2.1⟩ (g_Mo_firstOf_3 l G k h0 _ f9 b1 p1 kn1 (b1 + 1) n1 ma (va_up (va_up (va_up (va_up iv 14 (nI un1)) 15 (nI co1)) 16 (nI fl1)) 18 r1) co wd L1 En NB1 NA1 NK1 (va_up NP1 n1 1) hf (by omega) (by omega) (by omega) (by omega) hk) (k_virt (n := 4) C wc_Mo_firstOf rfl rfl wz_Mo wm_Mo_251 wn_Mo_firstOf ws_Mo_firstOf (by decide +kernel) ⟨(Nat.le_of_ble_eq_true rfl), (Nat.le_of_ble_eq_true rfl)⟩) (pr_nowV K S [0, 2, 3, 5, 7, 8, 9, 10] (by decide) rfl 0 rfl rfl) rfl rfl hl.1 rfl (lv_room (Nat.le_of_ble_eq_true rfl)) d_Mo_needOf_81 ⟨(Nat.le_of_ble_eq_true rfl), (Nat.le_of_ble_eq_true rfl)⟩) (fun lu H locs hw16 S => ?_)
        have S : Sw G A s.heap _ _ [((ma 0), .inl (k 0, 4, .inl (fun i => nI (tk i)))), ((ma 14), .inl (k 0, 4, .inl (fun i => nI (fs i)))), ((ma 15), .inl (k 1, 3690, .inr (.inl s1))), ((ma 20), .inl (k 0, 20, .inl (fun i => nI (NQ1 i)))), (h0, .inr (8, moL ma (va_up (va_up (va_up (va_up (va_up (va_up iv 14 (nI un1)) 15 (nI co1)) 16 (nI fl1)) 18 r1) 13 (nI ((b1 + 1) + 1))) 17 (nI (n1 + 1 + 1))) co)), ((ma 1), .inl (k 0, 800, .inl wd)), ((ma 3), .inl (k 0, 800, .inl (fun i => nI (En i)))), ((ma 13), .inl (k 1, 36982, .inr (.inl lu))), ((ma 16), .inl (k 0, 20, .inl (fun i => nI ((va_up NB1 (n1 + 1) (b1 + 1)) i)))), ((ma 17), .inl (k 0, 20, .inl (fun i => nI ((va_up NA1 (n1 + 1) (p1 + 2)) i)))), ((ma 18), .inl (k 0, 20, .inl (fun i => nI ((va_up NK1 (n1 + 1) (kn1)) i)))), ((ma 19), .inl (k 0, 20, .inl (fun i => nI ((va_up (va_up NP1 n1 1) (n1 + 1) 0) i))))] := S
        have hlu := hw16
        refine lv_goto (tgt := 148) hx hb d_Mo_needOf_84 (by decide) ?_
        refine lv_goto (tgt := 18) hx hb d_Mo_needOf_148 (by decide) ?_
        obtain ⟨o1, o2, o3, o4⟩ := hlu
        refine ih _ _ _ hwe (by omega) (n1 + 1) (b1 + 1) un1 co1 fl1 (b1 + 1 + 1) r1 G1 D1 lu s1 (va_up NB1 (n1 + 1) (b1 + 1)) (va_up NA1 (n1 + 1) (p1 + 2)) (va_up NK1 (n1 + 1) kn1) (va_up (va_up NP1 n1 1) (n1 + 1) 0) NQ1 (va_up_self _ _ _) (va_up_self _ _ _) (va_up_self _ _ _) (va_up_self _ _ _) rfl (by omega) (by omega) (by omega) hfo hs1 (by omega) (by omega) o1 (by rw [o2]; exact hG1) (Nat.le_trans o3 (by omega)) (by omega) (by omega) (fun un2 co2 fl2 k2 L2 s2 NB2 NA2 NK2 NP2 NQ2 hu2 hc2 hf2 hm2 hk2 ht2 hb2 ho2 ha2 H locs S ls hl => ?_) _ _ (S.sub [4, 0, 5, 6, 1, 7, 2, 8, 9, 10, 11, 3] (by decide) rfl) ls (lv_sub hl [2, 3, 4, 5] rfl)
        have S : Sw G A s.heap H locs [(h0, .inr (8, moL ma (va_up (va_up (va_up (va_up (va_up (va_up iv 14 (nI un2)) 15 (nI co2)) 16 (nI fl2)) 13 (nI k2)) 17 (nI (n1 + 1))) 18 (nI (b1 + 1))) co)), ((ma 0), .inl (k 0, 4, .inl (fun i => nI (tk i)))), ((ma 1), .inl (k 0, 800, .inl wd)), ((ma 3), .inl (k 0, 800, .inl (fun i => nI (En i)))), ((ma 14), .inl (k 0, 4, .inl (fun i => nI (fs i)))), ((ma 13), .inl (k 1, 36982, .inr (.inl L2))), ((ma 15), .inl (k 1, 3690, .inr (.inl s2))), ((ma 16), .inl (k 0, 20, .inl (fun i => nI (NB2 i)))), ((ma 17), .inl (k 0, 20, .inl (fun i => nI (NA2 i)))), ((ma 18), .inl (k 0, 20, .inl (fun i => nI (NK2 i)))), ((ma 19), .inl (k 0, 20, .inl (fun i => nI (NP2 i)))), ((ma 20), .inl (k 0, 20, .inl (fun i => nI (NQ2 i))))] := S
        have x1 := ha2 n1 (by omega)
        have cNB2 : NB2 n1 = b1 := x1.1.trans ((up_lt (by omega)).trans h1)
        have cNA2 : NA2 n1 = p1 := x1.2.1.trans ((up_lt (by omega)).trans h2)
        have cNK2 : NK2 n1 = kn1 := x1.2.2.1.trans ((up_lt (by omega)).trans h3)
        have cNP2 : NP2 n1 = 1 := x1.2.2.2.1.trans ((up_lt (by omega)).trans (va_up_self _ _ _))
        have g20 : lz L2 (22 * b1 + 20) ≤ G1 := by rw [ho2 _ (by omega), o4 _ (by omega)]; exact hG1
        have g21 : lz L2 (22 * b1 + 21) ≤ D1 := by rw [ho2 _ (by omega), o4 _ (by omega)]; exact hD1
        have hn20 : n1 < 20 := by omega
        refine lv_aload_n hx hb d_Mo_needOf_18 rfl (lv_at hl 0 rfl) ?_
        refine r_get C K S 0 rfl rfl clOk_Mo 34 (by decide) wf_Mo_221 (v := .int (nI (n1 + 1))) rfl d_Mo_needOf_19 ?_
        refine z_if_le (a := (n1 + 1)) (tgt := 151) hx hb d_Mo_needOf_22 (by decide) (by omega) (fun hc17 => False.elim (by omega)) (fun hc17 => ?_)
        refine lv_aload_n hx hb d_Mo_needOf_25 rfl (lv_at hl 0 rfl) ?_
        refine r_get C K S 0 rfl rfl clOk_Mo 34 (by decide) wf_Mo_221 (v := .int (nI (n1 + 1))) rfl d_Mo_needOf_26 ?_
        refine lv_iconst (v := 1) hx hb d_Mo_needOf_29 (by decide) ?_
        refine z_isub (x := nI (n1 + 1)) (y := 1) (v := nI (n1 + 1 - 1)) hx hb d_Mo_needOf_30 (pk_sub (a := (n1 + 1)) (b := 1) (by omega)) ?_
        rw [show n1 + 1 - 1 = n1 from rfl]
        refine lv_istore (lv' := [(4, .int (nI n1)), (0, .ref h0), (1, .int (nI f9)), (2, .int (nI (g9 * 41))), (3, .int (nI (e9 * 41)))]) hx hb d_Mo_needOf_31 hl (by decide) rfl (fun ls hl => ?_)
        refine lv_aload_n hx hb d_Mo_needOf_33 rfl (lv_at hl 1 rfl) ?_
        refine r_get C K S 0 rfl rfl clOk_Mo 38 (by decide) wf_Mo_76 (v := .ref (ma 19)) rfl d_Mo_needOf_34 ?_
        refine lv_iload hx hb d_Mo_needOf_37 (lv_at hl 0 rfl) ?_
        refine r_iald C K S 10 rfl (i := nI n1) (show vp_in (nI n1) _ from vp_in_nI (n := n1) (by omega) (by decide)) (v := nI (NP2 n1)) (by rw [nI_clamp (by omega)]) d_Mo_needOf_39 ?_
        rw [show NP2 n1 = 1 from cNP2]
        refine lv_istore (lv' := [(5, .int (nI 1)), (4, .int (nI n1)), (0, .ref h0), (1, .int (nI f9)), (2, .int (nI (g9 * 41))), (3, .int (nI (e9 * 41)))]) hx hb d_Mo_needOf_40 hl (by decide) rfl (fun ls hl => ?_)
        refine lv_aload_n hx hb d_Mo_needOf_42 rfl (lv_at hl 2 rfl) ?_
        refine r_get C K S 0 rfl rfl clOk_Mo 38 (by decide) wf_Mo_76 (v := .ref (ma 19)) rfl d_Mo_needOf_43 ?_
        refine lv_iload hx hb d_Mo_needOf_46 (lv_at hl 1 rfl) ?_
        refine lv_dup2_11 hx hb d_Mo_needOf_48 rfl rfl ?_
        refine r_iald C K S 10 rfl (i := nI n1) (show vp_in (nI n1) _ from vp_in_nI (n := n1) (by omega) (by decide)) (v := nI (NP2 n1)) (by rw [nI_clamp (by omega)]) d_Mo_needOf_49 ?_
        rw [show NP2 n1 = 1 from cNP2]
        refine lv_iconst (v := 1) hx hb d_Mo_needOf_50 (by decide) ?_
        refine z_iadd (x := nI 1) (y := 1) (v := 2) hx hb d_Mo_needOf_51 (show _ = nI (2) from (nI_add 1 1).trans (congrArg nI (by omega))) ?_
        refine r_iast C K S 10 rfl (i := nI n1) (x := 2) (show vp_in (nI n1) _ from vp_in_nI (n := n1) (by omega) (by decide)) (f' := fun i => nI (va_up NP2 n1 2 i)) (ws' := [(h0, .inr (8, moL ma (va_up (va_up (va_up (va_up (va_up (va_up iv 14 (nI un2)) 15 (nI co2)) 16 (nI fl2)) 13 (nI k2)) 17 (nI (n1 + 1))) 18 (nI (b1 + 1))) co)), ((ma 0), .inl (k 0, 4, .inl (fun i => nI (tk i)))), ((ma 1), .inl (k 0, 800, .inl wd)), ((ma 3), .inl (k 0, 800, .inl (fun i => nI (En i)))), ((ma 14), .inl (k 0, 4, .inl (fun i => nI (fs i)))), ((ma 13), .inl (k 1, 36982, .inr (.inl L2))), ((ma 15), .inl (k 1, 3690, .inr (.inl s2))), ((ma 16), .inl (k 0, 20, .inl (fun i => nI (NB2 i)))), ((ma 17), .inl (k 0, 20, .inl (fun i => nI (NA2 i)))), ((ma 18), .inl (k 0, 20, .inl (fun i => nI (NK2 i)))), ((ma 19), .inl (k 0, 20, .inl (fun i => nI (va_up NP2 n1 2 i)))), ((ma 20), .inl (k 0, 20, .inl (fun i => nI (NQ2 i))))]) (show upd _ (nI n1 : Int32).toNatClampNeg 2 = _ from upd_nI NP2 (j := n1) (by omega) 2) rfl d_Mo_needOf_52 (fun H locs S => ?_)
        refine lv_iload hx hb d_Mo_needOf_53 (lv_at hl 0 rfl) ?_
        refine z_if_ne (a := 1) (tgt := 87) hx hb d_Mo_needOf_55 (by decide) (by omega) (fun hc18 => ?_) (fun hc18 => False.elim (by omega))
        refine lv_iload hx hb d_Mo_needOf_87 (lv_at hl 0 rfl) ?_
        refine lv_iconst (v := 1) hx hb d_Mo_needOf_89 (by decide) ?_
        refine z_icmp_ne (a := 1) (b := 1) (tgt := 122) hx hb d_Mo_needOf_90 (by decide) (by omega) (by omega) (fun hc19 => False.elim (by omega)) (fun hc19 => ?_)
        refine lv_aload_n hx hb d_Mo_needOf_93 rfl (lv_at hl 2 rfl) ?_
        refine lv_iload_n hx hb d_Mo_needOf_94 rfl (lv_at hl 3 rfl) ?_
        refine lv_aload_n hx hb d_Mo_needOf_95 rfl (lv_at hl 2 rfl) ?_
        refine r_get C K S 0 rfl rfl clOk_Mo 35 (by decide) wf_Mo_67 (v := .ref (ma 16)) rfl d_Mo_needOf_96 ?_
        refine lv_iload hx hb d_Mo_needOf_99 (lv_at hl 1 rfl) ?_
        refine r_iald C K S 7 rfl (i := nI n1) (show vp_in (nI n1) _ from vp_in_nI (n := n1) (by omega) (by decide)) (v := nI (NB2 n1)) (by rw [nI_clamp (by omega)]) d_Mo_needOf_101 ?_
        rw [show NB2 n1 = b1 from cNB2]
        refine lv_aload_n hx hb d_Mo_needOf_102 rfl (lv_at hl 2 rfl) ?_
        refine r_get C K S 0 rfl rfl clOk_Mo 36 (by decide) wf_Mo_70 (v := .ref (ma 17)) rfl d_Mo_needOf_103 ?_
        refine lv_iload hx hb d_Mo_needOf_106 (lv_at hl 1 rfl) ?_
        refine r_iald C K S 8 rfl (i := nI n1) (show vp_in (nI n1) _ from vp_in_nI (n := n1) (by omega) (by decide)) (v := nI (NA2 n1)) (by rw [nI_clamp (by omega)]) d_Mo_needOf_108 ?_
        rw [show NA2 n1 = p1 from cNA2]
        refine lv_aload_n hx hb d_Mo_needOf_109 rfl (lv_at hl 2 rfl) ?_
        refine r_get C K S 0 rfl rfl clOk_Mo 37 (by decide) wf_Mo_73 (v := .ref (ma 18)) rfl d_Mo_needOf_110 ?_
        refine lv_iload hx hb d_Mo_needOf_113 (lv_at hl 1 rfl) ?_
        refine r_iald C K S 9 rfl (i := nI n1) (show vp_in (nI n1) _ from vp_in_nI (n := n1) (by omega) (by decide)) (v := nI (NK2 n1)) (by rw [nI_clamp (by omega)]) d_Mo_needOf_115 ?_
        rw [show NK2 n1 = kn1 from cNK2]
        refine r_backv (wi := [(h0, .inr (8, moL ma (va_up (va_up (va_up (va_up (va_up (va_up iv 14 (nI un2)) 15 (nI co2)) 16 (nI fl2)) 13 (nI k2)) 17 (nI (n1 + 1))) 18 (nI (b1 + 1))) co)), ((ma 1), .inl (k 0, 800, .inl wd)), ((ma 3), .inl (k 0, 800, .inl (fun i => nI (En i)))), ((ma 13), .inl (k 1, 36982, .inr (.inl L2))), ((ma 16), .inl (k 0, 20, .inl (fun i => nI (NB2 i)))), ((ma 17), .inl (k 0, 20, .inl (fun i => nI (NA2 i)))), ((ma 18), .inl (k 0, 20, .inl (fun i => nI (NK2 i)))), ((ma 19), .inl (k 0, 20, .inl (fun i => nI (va_up NP2 n1 2 i)))), ((ma 20), .inl (k 0, 20, .inl (fun i => nI (NQ2 i))))]) (wr := [((ma 0), .inl (k 0, 4, .inl (fun i => nI (tk i)))), ((ma 14), .inl (k 0, 4, .inl (fun i => nI (fs i)))), ((ma 15), .inl (k 1, 3690, .inr (.inl s2)))]) S hA [0, 2, 3, 5, 7, 8, 9, 10, 11] [1, 4, 6] rfl rfl (by decide) (by decide) (va_runV (As := [.int (nI f9), .int (nI b1), .int (nI p1), .int (nI kn1)]) (rest := []) ⟨hx, hb, C.2.2.1, C.2.2.2.1, C.2.2.2.2.1⟩ (g_Mo_secondOf_3 l G k h0 _ f9 b1 p1 kn1 k2 n1 (b1 + 1) m9 ma (va_up (va_up (va_up iv 14 (nI un2)) 15 (nI co2)) 16 (nI fl2)) co wd L2 En NB2 NA2 NK2 (va_up NP2 n1 2) NQ2 hf (by omega) (by omega) (by omega) (by omega) hEm (by omega) hk) (k_virt (n := 4) C wc_Mo_secondOf rfl rfl wz_Mo wm_Mo_254 wn_Mo_secondOf ws_Mo_secondOf (by decide +kernel) ⟨(Nat.le_of_ble_eq_true rfl), (Nat.le_of_ble_eq_true rfl)⟩) (pr_nowV K S [0, 2, 3, 5, 7, 8, 9, 10, 11] (by decide) rfl 0 rfl rfl) rfl rfl hl.1 rfl (lv_room (Nat.le_of_ble_eq_true rfl)) d_Mo_needOf_116 ⟨(Nat.le_of_ble_eq_true rfl), (Nat.le_of_ble_eq_true rfl)⟩) (fun lw H locs hw20 S => ?_)
        have S : Sw G A s.heap _ _ [((ma 0), .inl (k 0, 4, .inl (fun i => nI (tk i)))), ((ma 14), .inl (k 0, 4, .inl (fun i => nI (fs i)))), ((ma 15), .inl (k 1, 3690, .inr (.inl s2))), (h0, .inr (8, moL ma (va_up (va_up (va_up (va_up (va_up (va_up iv 14 (nI un2)) 15 (nI co2)) 16 (nI fl2)) 13 (nI (k2 + 1))) 17 (nI (n1 + 1 + 1))) 18 (nI (b1 + 1))) co)), ((ma 1), .inl (k 0, 800, .inl wd)), ((ma 3), .inl (k 0, 800, .inl (fun i => nI (En i)))), ((ma 13), .inl (k 1, 36982, .inr (.inl lw))), ((ma 16), .inl (k 0, 20, .inl (fun i => nI ((va_up NB2 (n1 + 1) k2) i)))), ((ma 17), .inl (k 0, 20, .inl (fun i => nI ((va_up NA2 (n1 + 1) (m9)) i)))), ((ma 18), .inl (k 0, 20, .inl (fun i => nI ((va_up NK2 (n1 + 1) (kn1 + 1)) i)))), ((ma 19), .inl (k 0, 20, .inl (fun i => nI ((va_up (va_up NP2 n1 2) (n1 + 1) 0) i)))), ((ma 20), .inl (k 0, 20, .inl (fun i => nI ((va_up NQ2 n1 (b1 + 1)) i))))] := S
        have hlw := hw20
        refine lv_goto (tgt := 148) hx hb d_Mo_needOf_119 (by decide) ?_
        refine lv_goto (tgt := 18) hx hb d_Mo_needOf_148 (by decide) ?_
        obtain ⟨w1, w2, w3, w4⟩ := hlw
        refine ih _ _ _ hwf hq1 (n1 + 1) k2 un2 co2 fl2 (k2 + 1) (nI (b1 + 1)) G1 D1 lw s2 (va_up NB2 (n1 + 1) k2) (va_up NA2 (n1 + 1) m9) (va_up NK2 (n1 + 1) (kn1 + 1)) (va_up (va_up NP2 n1 2) (n1 + 1) 0) (va_up NQ2 n1 (b1 + 1)) (va_up_self _ _ _) (va_up_self _ _ _) (va_up_self _ _ _) (va_up_self _ _ _) rfl (by omega) (by omega) (by omega) hf2 hm2 (by omega) (by omega) w1 (by rw [w2]; exact g20) (by rw [w3]; exact g21) (by omega) (by omega) (fun un3 co3 fl3 k3 L3 s3 NB3 NA3 NK3 NP3 NQ3 hu3 hc3 hf3 hm3 hk3 ht3 hb3 ho3 ha3 H locs S ls hl => ?_) _ _ (S.sub [3, 0, 4, 5, 1, 6, 2, 7, 8, 9, 10, 11] (by decide) rfl) ls (lv_sub hl [2, 3, 4, 5] rfl)
        have S : Sw G A s.heap H locs [(h0, .inr (8, moL ma (va_up (va_up (va_up (va_up (va_up (va_up iv 14 (nI un3)) 15 (nI co3)) 16 (nI fl3)) 13 (nI k3)) 17 (nI (n1 + 1))) 18 (nI k2)) co)), ((ma 0), .inl (k 0, 4, .inl (fun i => nI (tk i)))), ((ma 1), .inl (k 0, 800, .inl wd)), ((ma 3), .inl (k 0, 800, .inl (fun i => nI (En i)))), ((ma 14), .inl (k 0, 4, .inl (fun i => nI (fs i)))), ((ma 13), .inl (k 1, 36982, .inr (.inl L3))), ((ma 15), .inl (k 1, 3690, .inr (.inl s3))), ((ma 16), .inl (k 0, 20, .inl (fun i => nI (NB3 i)))), ((ma 17), .inl (k 0, 20, .inl (fun i => nI (NA3 i)))), ((ma 18), .inl (k 0, 20, .inl (fun i => nI (NK3 i)))), ((ma 19), .inl (k 0, 20, .inl (fun i => nI (NP3 i)))), ((ma 20), .inl (k 0, 20, .inl (fun i => nI (NQ3 i))))] := S
        have y1 := ha3 n1 (by omega)
        have cNB3 : NB3 n1 = b1 := y1.1.trans ((up_lt (by omega)).trans cNB2)
        have cNA3 : NA3 n1 = p1 := y1.2.1.trans ((up_lt (by omega)).trans cNA2)
        have cNK3 : NK3 n1 = kn1 := y1.2.2.1.trans ((up_lt (by omega)).trans cNK2)
        have cNP3 : NP3 n1 = 2 := y1.2.2.2.1.trans ((up_lt (by omega)).trans (va_up_self _ _ _))
        have cNQ3 : NQ3 n1 = b1 + 1 := y1.2.2.2.2.trans (va_up_self _ _ _)
        have old3 : ∀ x, x < 22 * k2 → lz L3 x = lz L2 x := fun x hx => by rw [ho3 x (by omega)]; exact w4 x (by omega)
        have z3 : ∀ k9, k9 < 20 → lz L3 (22 * b1 + k9) = 0 := fun k9 hk9 => by rw [old3 _ (by omega), ho2 _ (by omega), o4 _ (by omega)]; exact hz1 k9 hk9
        have n3 : ∀ k9, k9 < 20 → lz L3 (22 * (b1 + 1) + k9) ≤ 60000 := fun k9 hk9 => by rw [old3 _ (by omega)]; by_cases q : k9 < 19; exact Nat.le_trans (tn_mem q) (by omega); rw [show k9 = 19 by omega]; omega
        have n4 : ∀ k9, k9 < 20 → lz L3 (22 * k2 + k9) ≤ 60000 := fun k9 hk9 => by by_cases q : k9 < 19; exact Nat.le_trans (tn_mem q) (by omega); rw [show k9 = 19 by omega]; omega
        have uc1 := ncN_le (W := (wdF wd f9)) (tk := tk) (n0 := nd (wdF wd f9) (enF En f9) fu (p1 + 2) + nd (wdF wd f9) (enF En f9) fu m9) (p0 := p1 + 2) (v := v9) kn1
        have hn20 : n1 < 20 := by omega
        refine lv_aload_n hx hb d_Mo_needOf_18 rfl (lv_at hl 0 rfl) ?_
        refine r_get C K S 0 rfl rfl clOk_Mo 34 (by decide) wf_Mo_221 (v := .int (nI (n1 + 1))) rfl d_Mo_needOf_19 ?_
        refine z_if_le (a := (n1 + 1)) (tgt := 151) hx hb d_Mo_needOf_22 (by decide) (by omega) (fun hc21 => False.elim (by omega)) (fun hc21 => ?_)
        refine lv_aload_n hx hb d_Mo_needOf_25 rfl (lv_at hl 0 rfl) ?_
        refine r_get C K S 0 rfl rfl clOk_Mo 34 (by decide) wf_Mo_221 (v := .int (nI (n1 + 1))) rfl d_Mo_needOf_26 ?_
        refine lv_iconst (v := 1) hx hb d_Mo_needOf_29 (by decide) ?_
        refine z_isub (x := nI (n1 + 1)) (y := 1) (v := nI (n1 + 1 - 1)) hx hb d_Mo_needOf_30 (pk_sub (a := (n1 + 1)) (b := 1) (by omega)) ?_
        rw [show n1 + 1 - 1 = n1 from rfl]
        refine lv_istore (lv' := [(4, .int (nI n1)), (0, .ref h0), (1, .int (nI f9)), (2, .int (nI (g9 * 41))), (3, .int (nI (e9 * 41)))]) hx hb d_Mo_needOf_31 hl (by decide) rfl (fun ls hl => ?_)
        refine lv_aload_n hx hb d_Mo_needOf_33 rfl (lv_at hl 1 rfl) ?_
        refine r_get C K S 0 rfl rfl clOk_Mo 38 (by decide) wf_Mo_76 (v := .ref (ma 19)) rfl d_Mo_needOf_34 ?_
        refine lv_iload hx hb d_Mo_needOf_37 (lv_at hl 0 rfl) ?_
        refine r_iald C K S 10 rfl (i := nI n1) (show vp_in (nI n1) _ from vp_in_nI (n := n1) (by omega) (by decide)) (v := nI (NP3 n1)) (by rw [nI_clamp (by omega)]) d_Mo_needOf_39 ?_
        rw [show NP3 n1 = 2 from cNP3]
        refine lv_istore (lv' := [(5, .int (nI 2)), (4, .int (nI n1)), (0, .ref h0), (1, .int (nI f9)), (2, .int (nI (g9 * 41))), (3, .int (nI (e9 * 41)))]) hx hb d_Mo_needOf_40 hl (by decide) rfl (fun ls hl => ?_)
        refine lv_aload_n hx hb d_Mo_needOf_42 rfl (lv_at hl 2 rfl) ?_
        refine r_get C K S 0 rfl rfl clOk_Mo 38 (by decide) wf_Mo_76 (v := .ref (ma 19)) rfl d_Mo_needOf_43 ?_
        refine lv_iload hx hb d_Mo_needOf_46 (lv_at hl 1 rfl) ?_
        refine lv_dup2_11 hx hb d_Mo_needOf_48 rfl rfl ?_
        refine r_iald C K S 10 rfl (i := nI n1) (show vp_in (nI n1) _ from vp_in_nI (n := n1) (by omega) (by decide)) (v := nI (NP3 n1)) (by rw [nI_clamp (by omega)]) d_Mo_needOf_49 ?_
        rw [show NP3 n1 = 2 from cNP3]
        refine lv_iconst (v := 1) hx hb d_Mo_needOf_50 (by decide) ?_
        refine z_iadd (x := nI 2) (y := 1) (v := 3) hx hb d_Mo_needOf_51 (show _ = nI (3) from (nI_add 2 1).trans (congrArg nI (by omega))) ?_
        refine r_iast C K S 10 rfl (i := nI n1) (x := 3) (show vp_in (nI n1) _ from vp_in_nI (n := n1) (by omega) (by decide)) (f' := fun i => nI (va_up NP3 n1 3 i)) (ws' := [(h0, .inr (8, moL ma (va_up (va_up (va_up (va_up (va_up (va_up iv 14 (nI un3)) 15 (nI co3)) 16 (nI fl3)) 13 (nI k3)) 17 (nI (n1 + 1))) 18 (nI k2)) co)), ((ma 0), .inl (k 0, 4, .inl (fun i => nI (tk i)))), ((ma 1), .inl (k 0, 800, .inl wd)), ((ma 3), .inl (k 0, 800, .inl (fun i => nI (En i)))), ((ma 14), .inl (k 0, 4, .inl (fun i => nI (fs i)))), ((ma 13), .inl (k 1, 36982, .inr (.inl L3))), ((ma 15), .inl (k 1, 3690, .inr (.inl s3))), ((ma 16), .inl (k 0, 20, .inl (fun i => nI (NB3 i)))), ((ma 17), .inl (k 0, 20, .inl (fun i => nI (NA3 i)))), ((ma 18), .inl (k 0, 20, .inl (fun i => nI (NK3 i)))), ((ma 19), .inl (k 0, 20, .inl (fun i => nI (va_up NP3 n1 3 i)))), ((ma 20), .inl (k 0, 20, .inl (fun i => nI (NQ3 i))))]) (show upd _ (nI n1 : Int32).toNatClampNeg 3 = _ from upd_nI NP3 (j := n1) (by omega) 3) rfl d_Mo_needOf_52 (fun H locs S => ?_)
        refine lv_iload hx hb d_Mo_needOf_53 (lv_at hl 0 rfl) ?_
        refine z_if_ne (a := 2) (tgt := 87) hx hb d_Mo_needOf_55 (by decide) (by omega) (fun hc22 => ?_) (fun hc22 => False.elim (by omega))
        refine lv_iload hx hb d_Mo_needOf_87 (lv_at hl 0 rfl) ?_
        refine lv_iconst (v := 1) hx hb d_Mo_needOf_89 (by decide) ?_
        refine z_icmp_ne (a := 2) (b := 1) (tgt := 122) hx hb d_Mo_needOf_90 (by decide) (by omega) (by omega) (fun hc23 => ?_) (fun hc23 => False.elim (by omega))
        refine lv_aload_n hx hb d_Mo_needOf_122 rfl (lv_at hl 2 rfl) ?_
        refine lv_iload_n hx hb d_Mo_needOf_123 rfl (lv_at hl 3 rfl) ?_
        refine lv_aload_n hx hb d_Mo_needOf_124 rfl (lv_at hl 2 rfl) ?_
        refine r_get C K S 0 rfl rfl clOk_Mo 35 (by decide) wf_Mo_67 (v := .ref (ma 16)) rfl d_Mo_needOf_125 ?_
        refine lv_iload hx hb d_Mo_needOf_128 (lv_at hl 1 rfl) ?_
        refine r_iald C K S 7 rfl (i := nI n1) (show vp_in (nI n1) _ from vp_in_nI (n := n1) (by omega) (by decide)) (v := nI (NB3 n1)) (by rw [nI_clamp (by omega)]) d_Mo_needOf_130 ?_
        rw [show NB3 n1 = b1 from cNB3]
        refine lv_aload_n hx hb d_Mo_needOf_131 rfl (lv_at hl 2 rfl) ?_
        refine r_get C K S 0 rfl rfl clOk_Mo 36 (by decide) wf_Mo_70 (v := .ref (ma 17)) rfl d_Mo_needOf_132 ?_
        refine lv_iload hx hb d_Mo_needOf_135 (lv_at hl 1 rfl) ?_
        refine r_iald C K S 8 rfl (i := nI n1) (show vp_in (nI n1) _ from vp_in_nI (n := n1) (by omega) (by decide)) (v := nI (NA3 n1)) (by rw [nI_clamp (by omega)]) d_Mo_needOf_137 ?_
        rw [show NA3 n1 = p1 from cNA3]
        refine lv_aload_n hx hb d_Mo_needOf_138 rfl (lv_at hl 2 rfl) ?_
        refine r_get C K S 0 rfl rfl clOk_Mo 37 (by decide) wf_Mo_73 (v := .ref (ma 18)) rfl d_Mo_needOf_139 ?_
        refine lv_iload hx hb d_Mo_needOf_142 (lv_at hl 1 rfl) ?_
        refine r_iald C K S 9 rfl (i := nI n1) (show vp_in (nI n1) _ from vp_in_nI (n := n1) (by omega) (by decide)) (v := nI (NK3 n1)) (by rw [nI_clamp (by omega)]) d_Mo_needOf_144 ?_
        rw [show NK3 n1 = kn1 from cNK3]
        refine r_backv (wi := [(h0, .inr (8, moL ma (va_up (va_up (va_up (va_up (va_up (va_up iv 13 (nI k3)) 14 (nI un3)) 15 (nI co3)) 16 (nI fl3)) 17 (nI (n1 + 1))) 18 (nI k2)) co)), ((ma 0), .inl (k 0, 4, .inl (fun i => nI (tk i)))), ((ma 1), .inl (k 0, 800, .inl wd)), ((ma 3), .inl (k 0, 800, .inl (fun i => nI (En i)))), ((ma 13), .inl (k 1, 36982, .inr (.inl L3))), ((ma 15), .inl (k 1, 3690, .inr (.inl s3))), ((ma 16), .inl (k 0, 20, .inl (fun i => nI (NB3 i)))), ((ma 20), .inl (k 0, 20, .inl (fun i => nI (NQ3 i))))]) (wr := [((ma 14), .inl (k 0, 4, .inl (fun i => nI (fs i)))), ((ma 17), .inl (k 0, 20, .inl (fun i => nI (NA3 i)))), ((ma 18), .inl (k 0, 20, .inl (fun i => nI (NK3 i)))), ((ma 19), .inl (k 0, 20, .inl (fun i => nI (va_up NP3 n1 3 i))))]) S hA [0, 1, 2, 3, 5, 6, 7, 11] [4, 8, 9, 10] rfl rfl (by decide) (by decide) (va_runV (As := [.int (nI f9), .int (nI b1), .int (nI p1), .int (nI kn1)]) (rest := []) ⟨hx, hb, C.2.2.1, C.2.2.2.1, C.2.2.2.2.1⟩ (g_Mo_thirdOf_3 l G k h0 _ f9 b1 p1 kn1 n1 (b1 + 1) k2 v9 q1 (nd (wdF wd f9) (enF En f9) fu (p1 + 2) + nd (wdF wd f9) (enF En f9) fu m9) nf un3 co3 fl3 ma (va_up iv 13 (nI k3)) co tk En wd L3 s3 NB3 NQ3 hf hn20 cNQ3 hk (by omega) (by omega) (by omega) (by omega) (by omega) hv hv2 hE1 hq1 hnf hHD htk (by omega) (by omega) hf3 hm3 z3 n3 n4) (k_virt (n := 4) C wc_Mo_thirdOf rfl rfl wz_Mo wm_Mo_257 wn_Mo_thirdOf ws_Mo_thirdOf (by decide +kernel) ⟨(Nat.le_of_ble_eq_true rfl), (Nat.le_of_ble_eq_true rfl)⟩) (pr_nowV K S [0, 1, 2, 3, 5, 6, 7, 11] (by decide) rfl 0 rfl rfl) rfl rfl hl.1 rfl (lv_room (Nat.le_of_ble_eq_true rfl)) d_Mo_needOf_145 ⟨(Nat.le_of_ble_eq_true rfl), (Nat.le_of_ble_eq_true rfl)⟩) (fun lx H locs hw24 S => ?_)
        have S : Sw G A s.heap _ _ [((ma 14), .inl (k 0, 4, .inl (fun i => nI (fs i)))), ((ma 17), .inl (k 0, 20, .inl (fun i => nI (NA3 i)))), ((ma 18), .inl (k 0, 20, .inl (fun i => nI (NK3 i)))), ((ma 19), .inl (k 0, 20, .inl (fun i => nI (va_up NP3 n1 3 i)))), (h0, .inr (8, moL ma (va_up (va_up (va_up (va_up (va_up (va_up iv 13 (nI k3)) 14 (nI (un3 + 2 + ncN (wdF wd f9) tk (nd (wdF wd f9) (enF En f9) fu (p1 + 2) + nd (wdF wd f9) (enF En f9) fu m9) (p1 + 2) v9 kn1))) 15 (nI (co3 + 3 + 2 * ncN (wdF wd f9) tk (nd (wdF wd f9) (enF En f9) fu (p1 + 2) + nd (wdF wd f9) (enF En f9) fu m9) (p1 + 2) v9 kn1))) 16 (nI lx.2.2)) 17 (nI n1)) 18 (nI (NB3 n1))) co)), ((ma 0), .inl (k 0, 4, .inl (fun i => nI (tk i)))), ((ma 1), .inl (k 0, 800, .inl wd)), ((ma 3), .inl (k 0, 800, .inl (fun i => nI (En i)))), ((ma 13), .inl (k 1, 36982, .inr (.inl lx.1))), ((ma 15), .inl (k 1, 3690, .inr (.inl lx.2.1))), ((ma 16), .inl (k 0, 20, .inl (fun i => nI (NB3 i)))), ((ma 20), .inl (k 0, 20, .inl (fun i => nI (NQ3 i))))] := S
        have hlx := hw24
        refine lv_goto (tgt := 18) hx hb d_Mo_needOf_148 (by decide) ?_
        have S : Sw G A s.heap H locs [((ma 14), .inl (k 0, 4, .inl (fun i => nI (fs i)))), ((ma 17), .inl (k 0, 20, .inl (fun i => nI (NA3 i)))), ((ma 18), .inl (k 0, 20, .inl (fun i => nI (NK3 i)))), ((ma 19), .inl (k 0, 20, .inl (fun i => nI (va_up NP3 n1 3 i)))), (h0, .inr (8, moL ma (va_up (va_up (va_up (va_up (va_up (va_up iv 13 (nI k3)) 14 (nI (un3 + 2 + ncN (wdF wd f9) tk (nd (wdF wd f9) (enF En f9) fu (p1 + 2) + nd (wdF wd f9) (enF En f9) fu m9) (p1 + 2) v9 kn1))) 15 (nI (co3 + 3 + 2 * ncN (wdF wd f9) tk (nd (wdF wd f9) (enF En f9) fu (p1 + 2) + nd (wdF wd f9) (enF En f9) fu m9) (p1 + 2) v9 kn1))) 16 (nI lx.2.2)) 17 (nI n1)) 18 (nI b1)) co)), ((ma 0), .inl (k 0, 4, .inl (fun i => nI (tk i)))), ((ma 1), .inl (k 0, 800, .inl wd)), ((ma 3), .inl (k 0, 800, .inl (fun i => nI (En i)))), ((ma 13), .inl (k 1, 36982, .inr (.inl lx.1))), ((ma 15), .inl (k 1, 3690, .inr (.inl lx.2.1))), ((ma 16), .inl (k 0, 20, .inl (fun i => nI (NB3 i)))), ((ma 20), .inl (k 0, 20, .inl (fun i => nI (NQ3 i))))] := by rw [cNB3] at S; exact S
        have tm := tn_mem (L := L3) (b := k2) (k := v9) (by omega)
        exact kont (un3 + 2 + ncN (wdF wd f9) tk (nd (wdF wd f9) (enF En f9) fu (p1 + 2) + nd (wdF wd f9) (enF En f9) fu m9) (p1 + 2) v9 kn1) (co3 + 3 + 2 * ncN (wdF wd f9) tk (nd (wdF wd f9) (enF En f9) fu (p1 + 2) + nd (wdF wd f9) (enF En f9) fu m9) (p1 + 2) v9 kn1) lx.2.2 k3 lx.1 lx.2.1 NB3 NA3 NK3 (va_up NP3 n1 3) NQ3 (by rw [hu3, hu2]; omega) (by rw [hc3, hc2]; omega) hlx.1 hlx.2.1 (by rw [hk3, hk2]; omega) (by have := hlx.2.2.1; omega) (by have := hlx.2.2.2.1; omega) (fun x hx => by rw [hlx.2.2.2.2 x (by omega), ho3 x (by omega), w4 x (by omega), ho2 x (by omega)]; exact o4 x (by omega)) (fun i hi => ⟨by rw [(ha3 i (by omega)).1, up_lt (by omega), (ha2 i (by omega)).1, up_lt (by omega)], by rw [(ha3 i (by omega)).2.1, up_lt (by omega), (ha2 i (by omega)).2.1, up_lt (by omega)], by rw [(ha3 i (by omega)).2.2.1, up_lt (by omega), (ha2 i (by omega)).2.2.1, up_lt (by omega)], by rw [up_lt hi, (ha3 i (by omega)).2.2.2.1, up_lt (by omega), up_lt hi, (ha2 i (by omega)).2.2.2.1, up_lt (by omega), up_lt hi], by rw [(ha3 i (by omega)).2.2.2.2, up_lt hi, (ha2 i (by omega)).2.2.2.2]⟩) _ _ (S.sub [4, 5, 6, 7, 0, 8, 9, 10, 1, 2, 3, 11] (by decide) rfl) ls (lv_sub hl [2, 3, 4, 5] rfl)
      · obtain ⟨hk, ⟨v9, hv, hv2⟩, hw2⟩ := hw1
        have ct := ct_4 (tk := tk) (E := (enF En f9)) (fu := fu) (kn := kn1) hk
        rw [ct.1] at hrm hu1 hc1 hGb hDb
        rw [ct.1, ct.2.1, ct.2.2] at kont
        have hlt2 := wf_lt _ _ _ _ hw2
        have ne1 := nd_pos hw2
        have hn20 : n1 < 20 := by omega
        refine lv_aload_n hx hb d_Mo_needOf_18 rfl (lv_at hl 0 rfl) ?_
        refine r_get C K S 0 rfl rfl clOk_Mo 34 (by decide) wf_Mo_221 (v := .int (nI (n1 + 1))) rfl d_Mo_needOf_19 ?_
        refine z_if_le (a := (n1 + 1)) (tgt := 151) hx hb d_Mo_needOf_22 (by decide) (by omega) (fun hc25 => False.elim (by omega)) (fun hc25 => ?_)
        refine lv_aload_n hx hb d_Mo_needOf_25 rfl (lv_at hl 0 rfl) ?_
        refine r_get C K S 0 rfl rfl clOk_Mo 34 (by decide) wf_Mo_221 (v := .int (nI (n1 + 1))) rfl d_Mo_needOf_26 ?_
        refine lv_iconst (v := 1) hx hb d_Mo_needOf_29 (by decide) ?_
        refine z_isub (x := nI (n1 + 1)) (y := 1) (v := nI (n1 + 1 - 1)) hx hb d_Mo_needOf_30 (pk_sub (a := (n1 + 1)) (b := 1) (by omega)) ?_
        rw [show n1 + 1 - 1 = n1 from rfl]
        refine lv_istore (lv' := [(4, .int (nI n1)), (0, .ref h0), (1, .int (nI f9)), (2, .int (nI (g9 * 41))), (3, .int (nI (e9 * 41)))]) hx hb d_Mo_needOf_31 hl (by decide) rfl (fun ls hl => ?_)
        refine lv_aload_n hx hb d_Mo_needOf_33 rfl (lv_at hl 1 rfl) ?_
        refine r_get C K S 0 rfl rfl clOk_Mo 38 (by decide) wf_Mo_76 (v := .ref (ma 19)) rfl d_Mo_needOf_34 ?_
        refine lv_iload hx hb d_Mo_needOf_37 (lv_at hl 0 rfl) ?_
        refine r_iald C K S 10 rfl (i := nI n1) (show vp_in (nI n1) _ from vp_in_nI (n := n1) (by omega) (by decide)) (v := nI (NP1 n1)) (by rw [nI_clamp (by omega)]) d_Mo_needOf_39 ?_
        rw [show NP1 n1 = 0 from h4]
        refine lv_istore (lv' := [(5, .int (nI 0)), (4, .int (nI n1)), (0, .ref h0), (1, .int (nI f9)), (2, .int (nI (g9 * 41))), (3, .int (nI (e9 * 41)))]) hx hb d_Mo_needOf_40 hl (by decide) rfl (fun ls hl => ?_)
        refine lv_aload_n hx hb d_Mo_needOf_42 rfl (lv_at hl 2 rfl) ?_
        refine r_get C K S 0 rfl rfl clOk_Mo 38 (by decide) wf_Mo_76 (v := .ref (ma 19)) rfl d_Mo_needOf_43 ?_
        refine lv_iload hx hb d_Mo_needOf_46 (lv_at hl 1 rfl) ?_
        refine lv_dup2_11 hx hb d_Mo_needOf_48 rfl rfl ?_
        refine r_iald C K S 10 rfl (i := nI n1) (show vp_in (nI n1) _ from vp_in_nI (n := n1) (by omega) (by decide)) (v := nI (NP1 n1)) (by rw [nI_clamp (by omega)]) d_Mo_needOf_49 ?_
        rw [show NP1 n1 = 0 from h4]
        refine lv_iconst (v := 1) hx hb d_Mo_needOf_50 (by decide) ?_
        refine z_iadd (x := nI 0) (y := 1) (v := 1) hx hb d_Mo_needOf_51 (show _ = nI (1) from (nI_add 0 1).trans (congrArg nI (by omega))) ?_
        refine r_iast C K S 10 rfl (i := nI n1) (x := 1) (show vp_in (nI n1) _ from vp_in_nI (n := n1) (by omega) (by decide)) (f' := fun i => nI (va_up NP1 n1 1 i)) (ws' := [(h0, .inr (8, moL ma (va_up (va_up (va_up (va_up (va_up (va_up iv 14 (nI un1)) 15 (nI co1)) 16 (nI fl1)) 13 (nI (b1 + 1))) 17 (nI (n1 + 1))) 18 r1) co)), ((ma 0), .inl (k 0, 4, .inl (fun i => nI (tk i)))), ((ma 1), .inl (k 0, 800, .inl wd)), ((ma 3), .inl (k 0, 800, .inl (fun i => nI (En i)))), ((ma 14), .inl (k 0, 4, .inl (fun i => nI (fs i)))), ((ma 13), .inl (k 1, 36982, .inr (.inl L1))), ((ma 15), .inl (k 1, 3690, .inr (.inl s1))), ((ma 16), .inl (k 0, 20, .inl (fun i => nI (NB1 i)))), ((ma 17), .inl (k 0, 20, .inl (fun i => nI (NA1 i)))), ((ma 18), .inl (k 0, 20, .inl (fun i => nI (NK1 i)))), ((ma 19), .inl (k 0, 20, .inl (fun i => nI (va_up NP1 n1 1 i)))), ((ma 20), .inl (k 0, 20, .inl (fun i => nI (NQ1 i))))]) (show upd _ (nI n1 : Int32).toNatClampNeg 1 = _ from upd_nI NP1 (j := n1) (by omega) 1) rfl d_Mo_needOf_52 (fun H locs S => ?_)
        refine lv_iload hx hb d_Mo_needOf_53 (lv_at hl 0 rfl) ?_
        refine z_if_ne (a := 0) (tgt := 87) hx hb d_Mo_needOf_55 (by decide) (by omega) (fun hc26 => False.elim (by omega)) (fun hc26 => ?_)
        refine lv_aload_n hx hb d_Mo_needOf_58 rfl (lv_at hl 2 rfl) ?_
        refine lv_iload_n hx hb d_Mo_needOf_59 rfl (lv_at hl 3 rfl) ?_
        refine lv_aload_n hx hb d_Mo_needOf_60 rfl (lv_at hl 2 rfl) ?_
        refine r_get C K S 0 rfl rfl clOk_Mo 35 (by decide) wf_Mo_67 (v := .ref (ma 16)) rfl d_Mo_needOf_61 ?_
        refine lv_iload hx hb d_Mo_needOf_64 (lv_at hl 1 rfl) ?_
        refine r_iald C K S 7 rfl (i := nI n1) (show vp_in (nI n1) _ from vp_in_nI (n := n1) (by omega) (by decide)) (v := nI (NB1 n1)) (by rw [nI_clamp (by omega)]) d_Mo_needOf_66 ?_
        rw [show NB1 n1 = b1 from h1]
        refine lv_aload_n hx hb d_Mo_needOf_67 rfl (lv_at hl 2 rfl) ?_
        refine r_get C K S 0 rfl rfl clOk_Mo 36 (by decide) wf_Mo_70 (v := .ref (ma 17)) rfl d_Mo_needOf_68 ?_
        refine lv_iload hx hb d_Mo_needOf_71 (lv_at hl 1 rfl) ?_
        refine r_iald C K S 8 rfl (i := nI n1) (show vp_in (nI n1) _ from vp_in_nI (n := n1) (by omega) (by decide)) (v := nI (NA1 n1)) (by rw [nI_clamp (by omega)]) d_Mo_needOf_73 ?_
        rw [show NA1 n1 = p1 from h2]
        refine lv_aload_n hx hb d_Mo_needOf_74 rfl (lv_at hl 2 rfl) ?_
        refine r_get C K S 0 rfl rfl clOk_Mo 37 (by decide) wf_Mo_73 (v := .ref (ma 18)) rfl d_Mo_needOf_75 ?_
        refine lv_iload hx hb d_Mo_needOf_78 (lv_at hl 1 rfl) ?_
        refine r_iald C K S 9 rfl (i := nI n1) (show vp_in (nI n1) _ from vp_in_nI (n := n1) (by omega) (by decide)) (v := nI (NK1 n1)) (by rw [nI_clamp (by omega)]) d_Mo_needOf_80 ?_
        rw [show NK1 n1 = kn1 from h3]
        refine r_backv (wi := [(h0, .inr (8, moL ma (va_up (va_up (va_up (va_up (va_up (va_up iv 14 (nI un1)) 15 (nI co1)) 16 (nI fl1)) 18 r1) 13 (nI (b1 + 1))) 17 (nI (n1 + 1))) co)), ((ma 1), .inl (k 0, 800, .inl wd)), ((ma 3), .inl (k 0, 800, .inl (fun i => nI (En i)))), ((ma 13), .inl (k 1, 36982, .inr (.inl L1))), ((ma 16), .inl (k 0, 20, .inl (fun i => nI (NB1 i)))), ((ma 17), .inl (k 0, 20, .inl (fun i => nI (NA1 i)))), ((ma 18), .inl (k 0, 20, .inl (fun i => nI (NK1 i)))), ((ma 19), .inl (k 0, 20, .inl (fun i => nI (va_up NP1 n1 1 i))))]) (wr := [((ma 0), .inl (k 0, 4, .inl (fun i => nI (tk i)))), ((ma 14), .inl (k 0, 4, .inl (fun i => nI (fs i)))), ((ma 15), .inl (k 1, 3690, .inr (.inl s1))), ((ma 20), .inl (k 0, 20, .inl (fun i => nI (NQ1 i))))]) S hA [0, 2, 3, 5, 7, 8, 9, 10] [1, 4, 6, 11] rfl rfl (by decide) (by decide) (va_runV (As := [.int (nI f9), .int (nI b1), .int (nI p1), .int (nI kn1)]) (rest := []) ⟨hx, hb, C.2.2.1, C.2.2.2.1, C.2.2.2.2.1⟩ (g_Mo_firstOf_4 l G k h0 _ f9 b1 p1 kn1 (b1 + 1) n1 ma (va_up (va_up (va_up (va_up iv 14 (nI un1)) 15 (nI co1)) 16 (nI fl1)) 18 r1) co wd L1 En NB1 NA1 NK1 (va_up NP1 n1 1) hf (by omega) (by omega) (by omega) (by omega) hk) (k_virt (n := 4) C wc_Mo_firstOf rfl rfl wz_Mo wm_Mo_251 wn_Mo_firstOf ws_Mo_firstOf (by decide +kernel) ⟨(Nat.le_of_ble_eq_true rfl), (Nat.le_of_ble_eq_true rfl)⟩) (pr_nowV K S [0, 2, 3, 5, 7, 8, 9, 10] (by decide) rfl 0 rfl rfl) rfl rfl hl.1 rfl (lv_room (Nat.le_of_ble_eq_true rfl)) d_Mo_needOf_81 ⟨(Nat.le_of_ble_eq_true rfl), (Nat.le_of_ble_eq_true rfl)⟩) (fun lu H locs hw27 S => ?_)
        have S : Sw G A s.heap _ _ [((ma 0), .inl (k 0, 4, .inl (fun i => nI (tk i)))), ((ma 14), .inl (k 0, 4, .inl (fun i => nI (fs i)))), ((ma 15), .inl (k 1, 3690, .inr (.inl s1))), ((ma 20), .inl (k 0, 20, .inl (fun i => nI (NQ1 i)))), (h0, .inr (8, moL ma (va_up (va_up (va_up (va_up (va_up (va_up iv 14 (nI un1)) 15 (nI co1)) 16 (nI fl1)) 18 r1) 13 (nI ((b1 + 1) + 1))) 17 (nI (n1 + 1 + 1))) co)), ((ma 1), .inl (k 0, 800, .inl wd)), ((ma 3), .inl (k 0, 800, .inl (fun i => nI (En i)))), ((ma 13), .inl (k 1, 36982, .inr (.inl lu))), ((ma 16), .inl (k 0, 20, .inl (fun i => nI ((va_up NB1 (n1 + 1) (b1 + 1)) i)))), ((ma 17), .inl (k 0, 20, .inl (fun i => nI ((va_up NA1 (n1 + 1) (p1 + 2)) i)))), ((ma 18), .inl (k 0, 20, .inl (fun i => nI ((va_up NK1 (n1 + 1) (kn1)) i)))), ((ma 19), .inl (k 0, 20, .inl (fun i => nI ((va_up (va_up NP1 n1 1) (n1 + 1) 0) i))))] := S
        have hlu := hw27
        refine lv_goto (tgt := 148) hx hb d_Mo_needOf_84 (by decide) ?_
        refine lv_goto (tgt := 18) hx hb d_Mo_needOf_148 (by decide) ?_
        obtain ⟨o1, o2, o3, o4⟩ := hlu
        refine ih _ _ _ hw2 hq1 (n1 + 1) (b1 + 1) un1 co1 fl1 (b1 + 1 + 1) r1 G1 D1 lu s1 (va_up NB1 (n1 + 1) (b1 + 1)) (va_up NA1 (n1 + 1) (p1 + 2)) (va_up NK1 (n1 + 1) kn1) (va_up (va_up NP1 n1 1) (n1 + 1) 0) NQ1 (va_up_self _ _ _) (va_up_self _ _ _) (va_up_self _ _ _) (va_up_self _ _ _) rfl (by omega) (by omega) (by omega) hfo hs1 (by omega) (by omega) o1 (by rw [o2]; exact hG1) (Nat.le_trans o3 (by omega)) (by omega) (by omega) (fun un2 co2 fl2 k2 L2 s2 NB2 NA2 NK2 NP2 NQ2 hu2 hc2 hf2 hm2 hk2 ht2 hb2 ho2 ha2 H locs S ls hl => ?_) _ _ (S.sub [4, 0, 5, 6, 1, 7, 2, 8, 9, 10, 11, 3] (by decide) rfl) ls (lv_sub hl [2, 3, 4, 5] rfl)
        have S : Sw G A s.heap H locs [(h0, .inr (8, moL ma (va_up (va_up (va_up (va_up (va_up (va_up iv 14 (nI un2)) 15 (nI co2)) 16 (nI fl2)) 13 (nI k2)) 17 (nI (n1 + 1))) 18 (nI (b1 + 1))) co)), ((ma 0), .inl (k 0, 4, .inl (fun i => nI (tk i)))), ((ma 1), .inl (k 0, 800, .inl wd)), ((ma 3), .inl (k 0, 800, .inl (fun i => nI (En i)))), ((ma 14), .inl (k 0, 4, .inl (fun i => nI (fs i)))), ((ma 13), .inl (k 1, 36982, .inr (.inl L2))), ((ma 15), .inl (k 1, 3690, .inr (.inl s2))), ((ma 16), .inl (k 0, 20, .inl (fun i => nI (NB2 i)))), ((ma 17), .inl (k 0, 20, .inl (fun i => nI (NA2 i)))), ((ma 18), .inl (k 0, 20, .inl (fun i => nI (NK2 i)))), ((ma 19), .inl (k 0, 20, .inl (fun i => nI (NP2 i)))), ((ma 20), .inl (k 0, 20, .inl (fun i => nI (NQ2 i))))] := S
        have x1 := ha2 n1 (by omega)
        have cNB2 : NB2 n1 = b1 := x1.1.trans ((up_lt (by omega)).trans h1)
        have cNA2 : NA2 n1 = p1 := x1.2.1.trans ((up_lt (by omega)).trans h2)
        have cNK2 : NK2 n1 = kn1 := x1.2.2.1.trans ((up_lt (by omega)).trans h3)
        have cNP2 : NP2 n1 = 1 := x1.2.2.2.1.trans ((up_lt (by omega)).trans (va_up_self _ _ _))
        have hn20 : n1 < 20 := by omega
        refine lv_aload_n hx hb d_Mo_needOf_18 rfl (lv_at hl 0 rfl) ?_
        refine r_get C K S 0 rfl rfl clOk_Mo 34 (by decide) wf_Mo_221 (v := .int (nI (n1 + 1))) rfl d_Mo_needOf_19 ?_
        refine z_if_le (a := (n1 + 1)) (tgt := 151) hx hb d_Mo_needOf_22 (by decide) (by omega) (fun hc28 => False.elim (by omega)) (fun hc28 => ?_)
        refine lv_aload_n hx hb d_Mo_needOf_25 rfl (lv_at hl 0 rfl) ?_
        refine r_get C K S 0 rfl rfl clOk_Mo 34 (by decide) wf_Mo_221 (v := .int (nI (n1 + 1))) rfl d_Mo_needOf_26 ?_
        refine lv_iconst (v := 1) hx hb d_Mo_needOf_29 (by decide) ?_
        refine z_isub (x := nI (n1 + 1)) (y := 1) (v := nI (n1 + 1 - 1)) hx hb d_Mo_needOf_30 (pk_sub (a := (n1 + 1)) (b := 1) (by omega)) ?_
        rw [show n1 + 1 - 1 = n1 from rfl]
        refine lv_istore (lv' := [(4, .int (nI n1)), (0, .ref h0), (1, .int (nI f9)), (2, .int (nI (g9 * 41))), (3, .int (nI (e9 * 41)))]) hx hb d_Mo_needOf_31 hl (by decide) rfl (fun ls hl => ?_)
        refine lv_aload_n hx hb d_Mo_needOf_33 rfl (lv_at hl 1 rfl) ?_
        refine r_get C K S 0 rfl rfl clOk_Mo 38 (by decide) wf_Mo_76 (v := .ref (ma 19)) rfl d_Mo_needOf_34 ?_
        refine lv_iload hx hb d_Mo_needOf_37 (lv_at hl 0 rfl) ?_
        refine r_iald C K S 10 rfl (i := nI n1) (show vp_in (nI n1) _ from vp_in_nI (n := n1) (by omega) (by decide)) (v := nI (NP2 n1)) (by rw [nI_clamp (by omega)]) d_Mo_needOf_39 ?_
        rw [show NP2 n1 = 1 from cNP2]
        refine lv_istore (lv' := [(5, .int (nI 1)), (4, .int (nI n1)), (0, .ref h0), (1, .int (nI f9)), (2, .int (nI (g9 * 41))), (3, .int (nI (e9 * 41)))]) hx hb d_Mo_needOf_40 hl (by decide) rfl (fun ls hl => ?_)
        refine lv_aload_n hx hb d_Mo_needOf_42 rfl (lv_at hl 2 rfl) ?_
        refine r_get C K S 0 rfl rfl clOk_Mo 38 (by decide) wf_Mo_76 (v := .ref (ma 19)) rfl d_Mo_needOf_43 ?_
        refine lv_iload hx hb d_Mo_needOf_46 (lv_at hl 1 rfl) ?_
        refine lv_dup2_11 hx hb d_Mo_needOf_48 rfl rfl ?_
        refine r_iald C K S 10 rfl (i := nI n1) (show vp_in (nI n1) _ from vp_in_nI (n := n1) (by omega) (by decide)) (v := nI (NP2 n1)) (by rw [nI_clamp (by omega)]) d_Mo_needOf_49 ?_
        rw [show NP2 n1 = 1 from cNP2]
        refine lv_iconst (v := 1) hx hb d_Mo_needOf_50 (by decide) ?_
        refine z_iadd (x := nI 1) (y := 1) (v := 2) hx hb d_Mo_needOf_51 (show _ = nI (2) from (nI_add 1 1).trans (congrArg nI (by omega))) ?_
        refine r_iast C K S 10 rfl (i := nI n1) (x := 2) (show vp_in (nI n1) _ from vp_in_nI (n := n1) (by omega) (by decide)) (f' := fun i => nI (va_up NP2 n1 2 i)) (ws' := [(h0, .inr (8, moL ma (va_up (va_up (va_up (va_up (va_up (va_up iv 14 (nI un2)) 15 (nI co2)) 16 (nI fl2)) 13 (nI k2)) 17 (nI (n1 + 1))) 18 (nI (b1 + 1))) co)), ((ma 0), .inl (k 0, 4, .inl (fun i => nI (tk i)))), ((ma 1), .inl (k 0, 800, .inl wd)), ((ma 3), .inl (k 0, 800, .inl (fun i => nI (En i)))), ((ma 14), .inl (k 0, 4, .inl (fun i => nI (fs i)))), ((ma 13), .inl (k 1, 36982, .inr (.inl L2))), ((ma 15), .inl (k 1, 3690, .inr (.inl s2))), ((ma 16), .inl (k 0, 20, .inl (fun i => nI (NB2 i)))), ((ma 17), .inl (k 0, 20, .inl (fun i => nI (NA2 i)))), ((ma 18), .inl (k 0, 20, .inl (fun i => nI (NK2 i)))), ((ma 19), .inl (k 0, 20, .inl (fun i => nI (va_up NP2 n1 2 i)))), ((ma 20), .inl (k 0, 20, .inl (fun i => nI (NQ2 i))))]) (show upd _ (nI n1 : Int32).toNatClampNeg 2 = _ from upd_nI NP2 (j := n1) (by omega) 2) rfl d_Mo_needOf_52 (fun H locs S => ?_)
        refine lv_iload hx hb d_Mo_needOf_53 (lv_at hl 0 rfl) ?_
        refine z_if_ne (a := 1) (tgt := 87) hx hb d_Mo_needOf_55 (by decide) (by omega) (fun hc29 => ?_) (fun hc29 => False.elim (by omega))
        refine lv_iload hx hb d_Mo_needOf_87 (lv_at hl 0 rfl) ?_
        refine lv_iconst (v := 1) hx hb d_Mo_needOf_89 (by decide) ?_
        refine z_icmp_ne (a := 1) (b := 1) (tgt := 122) hx hb d_Mo_needOf_90 (by decide) (by omega) (by omega) (fun hc30 => False.elim (by omega)) (fun hc30 => ?_)
        refine lv_aload_n hx hb d_Mo_needOf_93 rfl (lv_at hl 2 rfl) ?_
        refine lv_iload_n hx hb d_Mo_needOf_94 rfl (lv_at hl 3 rfl) ?_
        refine lv_aload_n hx hb d_Mo_needOf_95 rfl (lv_at hl 2 rfl) ?_
        refine r_get C K S 0 rfl rfl clOk_Mo 35 (by decide) wf_Mo_67 (v := .ref (ma 16)) rfl d_Mo_needOf_96 ?_
        refine lv_iload hx hb d_Mo_needOf_99 (lv_at hl 1 rfl) ?_
        refine r_iald C K S 7 rfl (i := nI n1) (show vp_in (nI n1) _ from vp_in_nI (n := n1) (by omega) (by decide)) (v := nI (NB2 n1)) (by rw [nI_clamp (by omega)]) d_Mo_needOf_101 ?_
        rw [show NB2 n1 = b1 from cNB2]
        refine lv_aload_n hx hb d_Mo_needOf_102 rfl (lv_at hl 2 rfl) ?_
        refine r_get C K S 0 rfl rfl clOk_Mo 36 (by decide) wf_Mo_70 (v := .ref (ma 17)) rfl d_Mo_needOf_103 ?_
        refine lv_iload hx hb d_Mo_needOf_106 (lv_at hl 1 rfl) ?_
        refine r_iald C K S 8 rfl (i := nI n1) (show vp_in (nI n1) _ from vp_in_nI (n := n1) (by omega) (by decide)) (v := nI (NA2 n1)) (by rw [nI_clamp (by omega)]) d_Mo_needOf_108 ?_
        rw [show NA2 n1 = p1 from cNA2]
        refine lv_aload_n hx hb d_Mo_needOf_109 rfl (lv_at hl 2 rfl) ?_
        refine r_get C K S 0 rfl rfl clOk_Mo 37 (by decide) wf_Mo_73 (v := .ref (ma 18)) rfl d_Mo_needOf_110 ?_
        refine lv_iload hx hb d_Mo_needOf_113 (lv_at hl 1 rfl) ?_
        refine r_iald C K S 9 rfl (i := nI n1) (show vp_in (nI n1) _ from vp_in_nI (n := n1) (by omega) (by decide)) (v := nI (NK2 n1)) (by rw [nI_clamp (by omega)]) d_Mo_needOf_115 ?_
        rw [show NK2 n1 = kn1 from cNK2]
        refine r_backv (wi := [(h0, .inr (8, moL ma (va_up (va_up (va_up (va_up (va_up (va_up iv 14 (nI un2)) 15 (nI co2)) 16 (nI fl2)) 13 (nI k2)) 17 (nI (n1 + 1))) 18 (nI (b1 + 1))) co)), ((ma 1), .inl (k 0, 800, .inl wd)), ((ma 13), .inl (k 1, 36982, .inr (.inl L2))), ((ma 16), .inl (k 0, 20, .inl (fun i => nI (NB2 i)))), ((ma 20), .inl (k 0, 20, .inl (fun i => nI (NQ2 i))))]) (wr := [((ma 0), .inl (k 0, 4, .inl (fun i => nI (tk i)))), ((ma 3), .inl (k 0, 800, .inl (fun i => nI (En i)))), ((ma 14), .inl (k 0, 4, .inl (fun i => nI (fs i)))), ((ma 15), .inl (k 1, 3690, .inr (.inl s2))), ((ma 17), .inl (k 0, 20, .inl (fun i => nI (NA2 i)))), ((ma 18), .inl (k 0, 20, .inl (fun i => nI (NK2 i)))), ((ma 19), .inl (k 0, 20, .inl (fun i => nI (va_up NP2 n1 2 i))))]) S hA [0, 2, 5, 7, 11] [1, 3, 4, 6, 8, 9, 10] rfl rfl (by decide) (by decide) (va_runV (As := [.int (nI f9), .int (nI b1), .int (nI p1), .int (nI kn1)]) (rest := []) ⟨hx, hb, C.2.2.1, C.2.2.2.1, C.2.2.2.2.1⟩ (g_Mo_secondOf_4 l G k h0 _ f9 b1 p1 kn1 n1 (b1 + 1) v9 ma (va_up (va_up (va_up (va_up iv 14 (nI un2)) 15 (nI co2)) 16 (nI fl2)) 13 (nI k2)) co wd L2 NB2 NQ2 hf (by omega) (by omega) hn20 (by omega) hk hv hv2) (k_virt (n := 4) C wc_Mo_secondOf rfl rfl wz_Mo wm_Mo_254 wn_Mo_secondOf ws_Mo_secondOf (by decide +kernel) ⟨(Nat.le_of_ble_eq_true rfl), (Nat.le_of_ble_eq_true rfl)⟩) (pr_nowV K S [0, 2, 5, 7, 11] (by decide) rfl 0 rfl rfl) rfl rfl hl.1 rfl (lv_room (Nat.le_of_ble_eq_true rfl)) d_Mo_needOf_116 ⟨(Nat.le_of_ble_eq_true rfl), (Nat.le_of_ble_eq_true rfl)⟩) (fun lw H locs hw31 S => ?_)
        have S : Sw G A s.heap _ _ [((ma 0), .inl (k 0, 4, .inl (fun i => nI (tk i)))), ((ma 3), .inl (k 0, 800, .inl (fun i => nI (En i)))), ((ma 14), .inl (k 0, 4, .inl (fun i => nI (fs i)))), ((ma 15), .inl (k 1, 3690, .inr (.inl s2))), ((ma 17), .inl (k 0, 20, .inl (fun i => nI (NA2 i)))), ((ma 18), .inl (k 0, 20, .inl (fun i => nI (NK2 i)))), ((ma 19), .inl (k 0, 20, .inl (fun i => nI (va_up NP2 n1 2 i)))), (h0, .inr (8, moL ma (va_up (va_up (va_up (va_up (va_up (va_up iv 14 (nI un2)) 15 (nI co2)) 16 (nI fl2)) 13 (nI k2)) 17 (nI n1)) 18 (nI (NB2 n1))) co)), ((ma 1), .inl (k 0, 800, .inl wd)), ((ma 13), .inl (k 1, 36982, .inr (.inl lw))), ((ma 16), .inl (k 0, 20, .inl (fun i => nI (NB2 i)))), ((ma 20), .inl (k 0, 20, .inl (fun i => nI ((va_up NQ2 n1 (b1 + 1)) i))))] := S
        have hlw := hw31
        refine lv_goto (tgt := 148) hx hb d_Mo_needOf_119 (by decide) ?_
        refine lv_goto (tgt := 18) hx hb d_Mo_needOf_148 (by decide) ?_
        have S : Sw G A s.heap H locs [((ma 0), .inl (k 0, 4, .inl (fun i => nI (tk i)))), ((ma 3), .inl (k 0, 800, .inl (fun i => nI (En i)))), ((ma 14), .inl (k 0, 4, .inl (fun i => nI (fs i)))), ((ma 15), .inl (k 1, 3690, .inr (.inl s2))), ((ma 17), .inl (k 0, 20, .inl (fun i => nI (NA2 i)))), ((ma 18), .inl (k 0, 20, .inl (fun i => nI (NK2 i)))), ((ma 19), .inl (k 0, 20, .inl (fun i => nI (va_up NP2 n1 2 i)))), (h0, .inr (8, moL ma (va_up (va_up (va_up (va_up (va_up (va_up iv 14 (nI un2)) 15 (nI co2)) 16 (nI fl2)) 13 (nI k2)) 17 (nI n1)) 18 (nI b1)) co)), ((ma 1), .inl (k 0, 800, .inl wd)), ((ma 13), .inl (k 1, 36982, .inr (.inl lw))), ((ma 16), .inl (k 0, 20, .inl (fun i => nI (NB2 i)))), ((ma 20), .inl (k 0, 20, .inl (fun i => nI ((va_up NQ2 n1 (b1 + 1)) i))))] := by rw [cNB2] at S; exact S
        exact kont un2 co2 fl2 k2 lw s2 NB2 NA2 NK2 (va_up NP2 n1 2) (va_up NQ2 n1 (b1 + 1)) hu2 hc2 hf2 hm2 (by rw [hk2]; omega) (by rw [tn_shift hlw.1]; omega) (by have := hlw.2.1; omega) (fun x hx => by rw [hlw.2.2 x (by omega), ho2 x (by omega)]; exact o4 x (by omega)) (fun i hi => ⟨by rw [(ha2 i (by omega)).1, up_lt (by omega)], by rw [(ha2 i (by omega)).2.1, up_lt (by omega)], by rw [(ha2 i (by omega)).2.2.1, up_lt (by omega)], by rw [up_lt hi, (ha2 i (by omega)).2.2.2.1, up_lt (by omega), up_lt hi], by rw [up_lt hi, (ha2 i (by omega)).2.2.2.2]⟩) _ _ (S.sub [7, 0, 8, 1, 2, 9, 3, 10, 4, 5, 6, 11] (by decide) rfl) ls (lv_sub hl [2, 3, 4, 5] rfl)
      · obtain ⟨hk, g8, hg8, hg9, hq9, hvv⟩ := hw1
        have ct := ct_5 (tk := tk) (E := (enF En f9)) (fu := fu) (kn := kn1) hk
        rw [ct.1] at hrm hu1 hc1 hGb hDb
        rw [ct.1, ct.2.1, ct.2.2] at kont
        have htg := htk g8 (by omega)
        have hvs : ∀ k9, k9 < tk g8 → ∃ v, wdF wd f9 (p1 + 2 + k9) = nI v ∧ v < 19 := fun k9 hk9 => by obtain ⟨v, a, b⟩ := hvv k9 hk9; exact ⟨v, a, by omega⟩
        have hn20 : n1 < 20 := by omega
        refine lv_aload_n hx hb d_Mo_needOf_18 rfl (lv_at hl 0 rfl) ?_
        refine r_get C K S 0 rfl rfl clOk_Mo 34 (by decide) wf_Mo_221 (v := .int (nI (n1 + 1))) rfl d_Mo_needOf_19 ?_
        refine z_if_le (a := (n1 + 1)) (tgt := 151) hx hb d_Mo_needOf_22 (by decide) (by omega) (fun hc32 => False.elim (by omega)) (fun hc32 => ?_)
        refine lv_aload_n hx hb d_Mo_needOf_25 rfl (lv_at hl 0 rfl) ?_
        refine r_get C K S 0 rfl rfl clOk_Mo 34 (by decide) wf_Mo_221 (v := .int (nI (n1 + 1))) rfl d_Mo_needOf_26 ?_
        refine lv_iconst (v := 1) hx hb d_Mo_needOf_29 (by decide) ?_
        refine z_isub (x := nI (n1 + 1)) (y := 1) (v := nI (n1 + 1 - 1)) hx hb d_Mo_needOf_30 (pk_sub (a := (n1 + 1)) (b := 1) (by omega)) ?_
        rw [show n1 + 1 - 1 = n1 from rfl]
        refine lv_istore (lv' := [(4, .int (nI n1)), (0, .ref h0), (1, .int (nI f9)), (2, .int (nI (g9 * 41))), (3, .int (nI (e9 * 41)))]) hx hb d_Mo_needOf_31 hl (by decide) rfl (fun ls hl => ?_)
        refine lv_aload_n hx hb d_Mo_needOf_33 rfl (lv_at hl 1 rfl) ?_
        refine r_get C K S 0 rfl rfl clOk_Mo 38 (by decide) wf_Mo_76 (v := .ref (ma 19)) rfl d_Mo_needOf_34 ?_
        refine lv_iload hx hb d_Mo_needOf_37 (lv_at hl 0 rfl) ?_
        refine r_iald C K S 10 rfl (i := nI n1) (show vp_in (nI n1) _ from vp_in_nI (n := n1) (by omega) (by decide)) (v := nI (NP1 n1)) (by rw [nI_clamp (by omega)]) d_Mo_needOf_39 ?_
        rw [show NP1 n1 = 0 from h4]
        refine lv_istore (lv' := [(5, .int (nI 0)), (4, .int (nI n1)), (0, .ref h0), (1, .int (nI f9)), (2, .int (nI (g9 * 41))), (3, .int (nI (e9 * 41)))]) hx hb d_Mo_needOf_40 hl (by decide) rfl (fun ls hl => ?_)
        refine lv_aload_n hx hb d_Mo_needOf_42 rfl (lv_at hl 2 rfl) ?_
        refine r_get C K S 0 rfl rfl clOk_Mo 38 (by decide) wf_Mo_76 (v := .ref (ma 19)) rfl d_Mo_needOf_43 ?_
        refine lv_iload hx hb d_Mo_needOf_46 (lv_at hl 1 rfl) ?_
        refine lv_dup2_11 hx hb d_Mo_needOf_48 rfl rfl ?_
        refine r_iald C K S 10 rfl (i := nI n1) (show vp_in (nI n1) _ from vp_in_nI (n := n1) (by omega) (by decide)) (v := nI (NP1 n1)) (by rw [nI_clamp (by omega)]) d_Mo_needOf_49 ?_
        rw [show NP1 n1 = 0 from h4]
        refine lv_iconst (v := 1) hx hb d_Mo_needOf_50 (by decide) ?_
        refine z_iadd (x := nI 0) (y := 1) (v := 1) hx hb d_Mo_needOf_51 (show _ = nI (1) from (nI_add 0 1).trans (congrArg nI (by omega))) ?_
        refine r_iast C K S 10 rfl (i := nI n1) (x := 1) (show vp_in (nI n1) _ from vp_in_nI (n := n1) (by omega) (by decide)) (f' := fun i => nI (va_up NP1 n1 1 i)) (ws' := [(h0, .inr (8, moL ma (va_up (va_up (va_up (va_up (va_up (va_up iv 14 (nI un1)) 15 (nI co1)) 16 (nI fl1)) 13 (nI (b1 + 1))) 17 (nI (n1 + 1))) 18 r1) co)), ((ma 0), .inl (k 0, 4, .inl (fun i => nI (tk i)))), ((ma 1), .inl (k 0, 800, .inl wd)), ((ma 3), .inl (k 0, 800, .inl (fun i => nI (En i)))), ((ma 14), .inl (k 0, 4, .inl (fun i => nI (fs i)))), ((ma 13), .inl (k 1, 36982, .inr (.inl L1))), ((ma 15), .inl (k 1, 3690, .inr (.inl s1))), ((ma 16), .inl (k 0, 20, .inl (fun i => nI (NB1 i)))), ((ma 17), .inl (k 0, 20, .inl (fun i => nI (NA1 i)))), ((ma 18), .inl (k 0, 20, .inl (fun i => nI (NK1 i)))), ((ma 19), .inl (k 0, 20, .inl (fun i => nI (va_up NP1 n1 1 i)))), ((ma 20), .inl (k 0, 20, .inl (fun i => nI (NQ1 i))))]) (show upd _ (nI n1 : Int32).toNatClampNeg 1 = _ from upd_nI NP1 (j := n1) (by omega) 1) rfl d_Mo_needOf_52 (fun H locs S => ?_)
        refine lv_iload hx hb d_Mo_needOf_53 (lv_at hl 0 rfl) ?_
        refine z_if_ne (a := 0) (tgt := 87) hx hb d_Mo_needOf_55 (by decide) (by omega) (fun hc33 => False.elim (by omega)) (fun hc33 => ?_)
        refine lv_aload_n hx hb d_Mo_needOf_58 rfl (lv_at hl 2 rfl) ?_
        refine lv_iload_n hx hb d_Mo_needOf_59 rfl (lv_at hl 3 rfl) ?_
        refine lv_aload_n hx hb d_Mo_needOf_60 rfl (lv_at hl 2 rfl) ?_
        refine r_get C K S 0 rfl rfl clOk_Mo 35 (by decide) wf_Mo_67 (v := .ref (ma 16)) rfl d_Mo_needOf_61 ?_
        refine lv_iload hx hb d_Mo_needOf_64 (lv_at hl 1 rfl) ?_
        refine r_iald C K S 7 rfl (i := nI n1) (show vp_in (nI n1) _ from vp_in_nI (n := n1) (by omega) (by decide)) (v := nI (NB1 n1)) (by rw [nI_clamp (by omega)]) d_Mo_needOf_66 ?_
        rw [show NB1 n1 = b1 from h1]
        refine lv_aload_n hx hb d_Mo_needOf_67 rfl (lv_at hl 2 rfl) ?_
        refine r_get C K S 0 rfl rfl clOk_Mo 36 (by decide) wf_Mo_70 (v := .ref (ma 17)) rfl d_Mo_needOf_68 ?_
        refine lv_iload hx hb d_Mo_needOf_71 (lv_at hl 1 rfl) ?_
        refine r_iald C K S 8 rfl (i := nI n1) (show vp_in (nI n1) _ from vp_in_nI (n := n1) (by omega) (by decide)) (v := nI (NA1 n1)) (by rw [nI_clamp (by omega)]) d_Mo_needOf_73 ?_
        rw [show NA1 n1 = p1 from h2]
        refine lv_aload_n hx hb d_Mo_needOf_74 rfl (lv_at hl 2 rfl) ?_
        refine r_get C K S 0 rfl rfl clOk_Mo 37 (by decide) wf_Mo_73 (v := .ref (ma 18)) rfl d_Mo_needOf_75 ?_
        refine lv_iload hx hb d_Mo_needOf_78 (lv_at hl 1 rfl) ?_
        refine r_iald C K S 9 rfl (i := nI n1) (show vp_in (nI n1) _ from vp_in_nI (n := n1) (by omega) (by decide)) (v := nI (NK1 n1)) (by rw [nI_clamp (by omega)]) d_Mo_needOf_80 ?_
        rw [show NK1 n1 = kn1 from h3]
        refine r_backv (wi := [(h0, .inr (8, moL ma (va_up (va_up (va_up (va_up (va_up (va_up iv 13 (nI (b1 + 1))) 18 r1) 14 (nI un1)) 15 (nI co1)) 16 (nI fl1)) 17 (nI (n1 + 1))) co)), ((ma 0), .inl (k 0, 4, .inl (fun i => nI (tk i)))), ((ma 1), .inl (k 0, 800, .inl wd)), ((ma 14), .inl (k 0, 4, .inl (fun i => nI (fs i)))), ((ma 13), .inl (k 1, 36982, .inr (.inl L1))), ((ma 15), .inl (k 1, 3690, .inr (.inl s1))), ((ma 16), .inl (k 0, 20, .inl (fun i => nI (NB1 i))))]) (wr := [((ma 3), .inl (k 0, 800, .inl (fun i => nI (En i)))), ((ma 17), .inl (k 0, 20, .inl (fun i => nI (NA1 i)))), ((ma 18), .inl (k 0, 20, .inl (fun i => nI (NK1 i)))), ((ma 19), .inl (k 0, 20, .inl (fun i => nI (va_up NP1 n1 1 i)))), ((ma 20), .inl (k 0, 20, .inl (fun i => nI (NQ1 i))))]) S hA [0, 1, 2, 4, 5, 6, 7] [3, 8, 9, 10, 11] rfl rfl (by decide) (by decide) (va_runV (As := [.int (nI f9), .int (nI b1), .int (nI p1), .int (nI kn1)]) (rest := []) ⟨hx, hb, C.2.2.1, C.2.2.2.1, C.2.2.2.2.1⟩ (g_Mo_firstOf_5 l G k h0 _ f9 b1 p1 kn1 n1 g8 un1 co1 fl1 ma (va_up (va_up iv 13 (nI (b1 + 1))) 18 r1) co tk fs wd L1 s1 NB1 hf (by omega) hn20 (by omega) hk hg8 (by omega) hvs (hfs g8 hg9) (by omega) (by omega) hfo hs1 (by omega) (by omega)) (k_virt (n := 4) C wc_Mo_firstOf rfl rfl wz_Mo wm_Mo_251 wn_Mo_firstOf ws_Mo_firstOf (by decide +kernel) ⟨(Nat.le_of_ble_eq_true rfl), (Nat.le_of_ble_eq_true rfl)⟩) (pr_nowV K S [0, 1, 2, 4, 5, 6, 7] (by decide) rfl 0 rfl rfl) rfl rfl hl.1 rfl (lv_room (Nat.le_of_ble_eq_true rfl)) d_Mo_needOf_81 ⟨(Nat.le_of_ble_eq_true rfl), (Nat.le_of_ble_eq_true rfl)⟩) (fun lu H locs hw34 S => ?_)
        have S : Sw G A s.heap _ _ [((ma 3), .inl (k 0, 800, .inl (fun i => nI (En i)))), ((ma 17), .inl (k 0, 20, .inl (fun i => nI (NA1 i)))), ((ma 18), .inl (k 0, 20, .inl (fun i => nI (NK1 i)))), ((ma 19), .inl (k 0, 20, .inl (fun i => nI (va_up NP1 n1 1 i)))), ((ma 20), .inl (k 0, 20, .inl (fun i => nI (NQ1 i)))), (h0, .inr (8, moL ma (va_up (va_up (va_up (va_up (va_up (va_up iv 13 (nI (b1 + 1))) 14 (nI (un1 + 1))) 15 (nI (co1 + 3))) 16 (nI lu.2.2)) 17 (nI n1)) 18 (nI (NB1 n1))) co)), ((ma 0), .inl (k 0, 4, .inl (fun i => nI (tk i)))), ((ma 1), .inl (k 0, 800, .inl wd)), ((ma 14), .inl (k 0, 4, .inl (fun i => nI (fs i)))), ((ma 13), .inl (k 1, 36982, .inr (.inl lu.1))), ((ma 15), .inl (k 1, 3690, .inr (.inl lu.2.1))), ((ma 16), .inl (k 0, 20, .inl (fun i => nI (NB1 i))))] := S
        have hlu := hw34
        refine lv_goto (tgt := 148) hx hb d_Mo_needOf_84 (by decide) ?_
        refine lv_goto (tgt := 18) hx hb d_Mo_needOf_148 (by decide) ?_
        have S : Sw G A s.heap H locs [((ma 3), .inl (k 0, 800, .inl (fun i => nI (En i)))), ((ma 17), .inl (k 0, 20, .inl (fun i => nI (NA1 i)))), ((ma 18), .inl (k 0, 20, .inl (fun i => nI (NK1 i)))), ((ma 19), .inl (k 0, 20, .inl (fun i => nI (va_up NP1 n1 1 i)))), ((ma 20), .inl (k 0, 20, .inl (fun i => nI (NQ1 i)))), (h0, .inr (8, moL ma (va_up (va_up (va_up (va_up (va_up (va_up iv 13 (nI (b1 + 1))) 14 (nI (un1 + 1))) 15 (nI (co1 + 3))) 16 (nI lu.2.2)) 17 (nI n1)) 18 (nI b1)) co)), ((ma 0), .inl (k 0, 4, .inl (fun i => nI (tk i)))), ((ma 1), .inl (k 0, 800, .inl wd)), ((ma 14), .inl (k 0, 4, .inl (fun i => nI (fs i)))), ((ma 13), .inl (k 1, 36982, .inr (.inl lu.1))), ((ma 15), .inl (k 1, 3690, .inr (.inl lu.2.1))), ((ma 16), .inl (k 0, 20, .inl (fun i => nI (NB1 i))))] := by rw [h1] at S; exact S
        exact kont (un1 + 1) (co1 + 3) lu.2.2 (b1 + 1) lu.1 lu.2.1 NB1 NA1 NK1 (va_up NP1 n1 1) NQ1 rfl rfl hlu.1 hlu.2.1 rfl (by have := hlu.2.2.2.1; rw [tn_zero (fun k9 hk9 => hz1 k9 (by omega))] at this; omega) (by have := hlu.2.2.1; rw [hz1 19 (by omega)] at this; omega) (fun x hx => hlu.2.2.2.2 x (by omega)) (fun i hi => ⟨by rfl, by rfl, by rfl, by rw [up_lt hi], by rfl⟩) _ _ (S.sub [5, 6, 7, 0, 8, 9, 10, 11, 1, 2, 3, 4] (by decide) rfl) ls (lv_sub hl [2, 3, 4, 5] rfl)
      · obtain ⟨hk, m9, hwe, hwf⟩ := hw1
        have ct := ct_6 (tk := tk) (E := (enF En f9)) (fu := fu) (kn := kn1) hk
        have hEm : (enF En f9) (p1 + 1) = m9 := wf_end hwe
        rw [hEm] at ct
        rw [ct.1] at hrm hu1 hc1 hGb hDb
        rw [ct.1, ct.2.1, ct.2.2] at kont
        have hlt2 := wf_lt _ _ _ _ hwe
        have hlt3 := wf_lt _ _ _ _ hwf
        have ne1 := nd_pos hwe
        have nf1 := nd_pos hwf
        have hfu : 1 ≤ fu := by cases fu with | zero => exact hwe.elim | succ x => omega
        have ub2 := ucT_le (W := (wdF wd f9)) (tk := tk) (E := (enF En f9)) fu (kn1 + 1) m9 (by omega)
        have hn20 : n1 < 20 := by omega
        refine lv_aload_n hx hb d_Mo_needOf_18 rfl (lv_at hl 0 rfl) ?_
        refine r_get C K S 0 rfl rfl clOk_Mo 34 (by decide) wf_Mo_221 (v := .int (nI (n1 + 1))) rfl d_Mo_needOf_19 ?_
        refine z_if_le (a := (n1 + 1)) (tgt := 151) hx hb d_Mo_needOf_22 (by decide) (by omega) (fun hc35 => False.elim (by omega)) (fun hc35 => ?_)
        refine lv_aload_n hx hb d_Mo_needOf_25 rfl (lv_at hl 0 rfl) ?_
        refine r_get C K S 0 rfl rfl clOk_Mo 34 (by decide) wf_Mo_221 (v := .int (nI (n1 + 1))) rfl d_Mo_needOf_26 ?_
        refine lv_iconst (v := 1) hx hb d_Mo_needOf_29 (by decide) ?_
        refine z_isub (x := nI (n1 + 1)) (y := 1) (v := nI (n1 + 1 - 1)) hx hb d_Mo_needOf_30 (pk_sub (a := (n1 + 1)) (b := 1) (by omega)) ?_
        rw [show n1 + 1 - 1 = n1 from rfl]
        refine lv_istore (lv' := [(4, .int (nI n1)), (0, .ref h0), (1, .int (nI f9)), (2, .int (nI (g9 * 41))), (3, .int (nI (e9 * 41)))]) hx hb d_Mo_needOf_31 hl (by decide) rfl (fun ls hl => ?_)
        refine lv_aload_n hx hb d_Mo_needOf_33 rfl (lv_at hl 1 rfl) ?_
        refine r_get C K S 0 rfl rfl clOk_Mo 38 (by decide) wf_Mo_76 (v := .ref (ma 19)) rfl d_Mo_needOf_34 ?_
        refine lv_iload hx hb d_Mo_needOf_37 (lv_at hl 0 rfl) ?_
        refine r_iald C K S 10 rfl (i := nI n1) (show vp_in (nI n1) _ from vp_in_nI (n := n1) (by omega) (by decide)) (v := nI (NP1 n1)) (by rw [nI_clamp (by omega)]) d_Mo_needOf_39 ?_
        rw [show NP1 n1 = 0 from h4]
        refine lv_istore (lv' := [(5, .int (nI 0)), (4, .int (nI n1)), (0, .ref h0), (1, .int (nI f9)), (2, .int (nI (g9 * 41))), (3, .int (nI (e9 * 41)))]) hx hb d_Mo_needOf_40 hl (by decide) rfl (fun ls hl => ?_)
        refine lv_aload_n hx hb d_Mo_needOf_42 rfl (lv_at hl 2 rfl) ?_
        refine r_get C K S 0 rfl rfl clOk_Mo 38 (by decide) wf_Mo_76 (v := .ref (ma 19)) rfl d_Mo_needOf_43 ?_
        refine lv_iload hx hb d_Mo_needOf_46 (lv_at hl 1 rfl) ?_
        refine lv_dup2_11 hx hb d_Mo_needOf_48 rfl rfl ?_
        refine r_iald C K S 10 rfl (i := nI n1) (show vp_in (nI n1) _ from vp_in_nI (n := n1) (by omega) (by decide)) (v := nI (NP1 n1)) (by rw [nI_clamp (by omega)]) d_Mo_needOf_49 ?_
        rw [show NP1 n1 = 0 from h4]
        refine lv_iconst (v := 1) hx hb d_Mo_needOf_50 (by decide) ?_
        refine z_iadd (x := nI 0) (y := 1) (v := 1) hx hb d_Mo_needOf_51 (show _ = nI (1) from (nI_add 0 1).trans (congrArg nI (by omega))) ?_
        refine r_iast C K S 10 rfl (i := nI n1) (x := 1) (show vp_in (nI n1) _ from vp_in_nI (n := n1) (by omega) (by decide)) (f' := fun i => nI (va_up NP1 n1 1 i)) (ws' := [(h0, .inr (8, moL ma (va_up (va_up (va_up (va_up (va_up (va_up iv 14 (nI un1)) 15 (nI co1)) 16 (nI fl1)) 13 (nI (b1 + 1))) 17 (nI (n1 + 1))) 18 r1) co)), ((ma 0), .inl (k 0, 4, .inl (fun i => nI (tk i)))), ((ma 1), .inl (k 0, 800, .inl wd)), ((ma 3), .inl (k 0, 800, .inl (fun i => nI (En i)))), ((ma 14), .inl (k 0, 4, .inl (fun i => nI (fs i)))), ((ma 13), .inl (k 1, 36982, .inr (.inl L1))), ((ma 15), .inl (k 1, 3690, .inr (.inl s1))), ((ma 16), .inl (k 0, 20, .inl (fun i => nI (NB1 i)))), ((ma 17), .inl (k 0, 20, .inl (fun i => nI (NA1 i)))), ((ma 18), .inl (k 0, 20, .inl (fun i => nI (NK1 i)))), ((ma 19), .inl (k 0, 20, .inl (fun i => nI (va_up NP1 n1 1 i)))), ((ma 20), .inl (k 0, 20, .inl (fun i => nI (NQ1 i))))]) (show upd _ (nI n1 : Int32).toNatClampNeg 1 = _ from upd_nI NP1 (j := n1) (by omega) 1) rfl d_Mo_needOf_52 (fun H locs S => ?_)
        refine lv_iload hx hb d_Mo_needOf_53 (lv_at hl 0 rfl) ?_
        refine z_if_ne (a := 0) (tgt := 87) hx hb d_Mo_needOf_55 (by decide) (by omega) (fun hc36 => False.elim (by omega)) (fun hc36 => ?_)
        refine lv_aload_n hx hb d_Mo_needOf_58 rfl (lv_at hl 2 rfl) ?_
        refine lv_iload_n hx hb d_Mo_needOf_59 rfl (lv_at hl 3 rfl) ?_
        refine lv_aload_n hx hb d_Mo_needOf_60 rfl (lv_at hl 2 rfl) ?_
        refine r_get C K S 0 rfl rfl clOk_Mo 35 (by decide) wf_Mo_67 (v := .ref (ma 16)) rfl d_Mo_needOf_61 ?_
        refine lv_iload hx hb d_Mo_needOf_64 (lv_at hl 1 rfl) ?_
        refine r_iald C K S 7 rfl (i := nI n1) (show vp_in (nI n1) _ from vp_in_nI (n := n1) (by omega) (by decide)) (v := nI (NB1 n1)) (by rw [nI_clamp (by omega)]) d_Mo_needOf_66 ?_
        rw [show NB1 n1 = b1 from h1]
        refine lv_aload_n hx hb d_Mo_needOf_67 rfl (lv_at hl 2 rfl) ?_
        refine r_get C K S 0 rfl rfl clOk_Mo 36 (by decide) wf_Mo_70 (v := .ref (ma 17)) rfl d_Mo_needOf_68 ?_
        refine lv_iload hx hb d_Mo_needOf_71 (lv_at hl 1 rfl) ?_
        refine r_iald C K S 8 rfl (i := nI n1) (show vp_in (nI n1) _ from vp_in_nI (n := n1) (by omega) (by decide)) (v := nI (NA1 n1)) (by rw [nI_clamp (by omega)]) d_Mo_needOf_73 ?_
        rw [show NA1 n1 = p1 from h2]
        refine lv_aload_n hx hb d_Mo_needOf_74 rfl (lv_at hl 2 rfl) ?_
        refine r_get C K S 0 rfl rfl clOk_Mo 37 (by decide) wf_Mo_73 (v := .ref (ma 18)) rfl d_Mo_needOf_75 ?_
        refine lv_iload hx hb d_Mo_needOf_78 (lv_at hl 1 rfl) ?_
        refine r_iald C K S 9 rfl (i := nI n1) (show vp_in (nI n1) _ from vp_in_nI (n := n1) (by omega) (by decide)) (v := nI (NK1 n1)) (by rw [nI_clamp (by omega)]) d_Mo_needOf_80 ?_
        rw [show NK1 n1 = kn1 from h3]
        refine r_backv (wi := [(h0, .inr (8, moL ma (va_up (va_up (va_up (va_up (va_up (va_up iv 14 (nI un1)) 15 (nI co1)) 16 (nI fl1)) 18 r1) 13 (nI (b1 + 1))) 17 (nI (n1 + 1))) co)), ((ma 1), .inl (k 0, 800, .inl wd)), ((ma 3), .inl (k 0, 800, .inl (fun i => nI (En i)))), ((ma 13), .inl (k 1, 36982, .inr (.inl L1))), ((ma 16), .inl (k 0, 20, .inl (fun i => nI (NB1 i)))), ((ma 17), .inl (k 0, 20, .inl (fun i => nI (NA1 i)))), ((ma 18), .inl (k 0, 20, .inl (fun i => nI (NK1 i)))), ((ma 19), .inl (k 0, 20, .inl (fun i => nI (va_up NP1 n1 1 i))))]) (wr := [((ma 0), .inl (k 0, 4, .inl (fun i => nI (tk i)))), ((ma 14), .inl (k 0, 4, .inl (fun i => nI (fs i)))), ((ma 15), .inl (k 1, 3690, .inr (.inl s1))), ((ma 20), .inl (k 0, 20, .inl (fun i => nI (NQ1 i))))]) S hA [0, 2, 3, 5, 7, 8, 9, 10] [1, 4, 6, 11] rfl rfl (by decide) (by decide) (va_runV (As := [.int (nI f9), .int (nI b1), .int (nI p1), .int (nI kn1)]) (rest := []) ⟨hx, hb, C.2.2.1, C.2.2.2.1, C.2.2.2.2.1⟩ (g_Mo_firstOf_6 l G k h0 _ f9 b1 p1 kn1 (b1 + 1) n1 m9 ma (va_up (va_up (va_up (va_up iv 14 (nI un1)) 15 (nI co1)) 16 (nI fl1)) 18 r1) co wd L1 En NB1 NA1 NK1 (va_up NP1 n1 1) hf (by omega) (by omega) (by omega) (by omega) hEm hk) (k_virt (n := 4) C wc_Mo_firstOf rfl rfl wz_Mo wm_Mo_251 wn_Mo_firstOf ws_Mo_firstOf (by decide +kernel) ⟨(Nat.le_of_ble_eq_true rfl), (Nat.le_of_ble_eq_true rfl)⟩) (pr_nowV K S [0, 2, 3, 5, 7, 8, 9, 10] (by decide) rfl 0 rfl rfl) rfl rfl hl.1 rfl (lv_room (Nat.le_of_ble_eq_true rfl)) d_Mo_needOf_81 ⟨(Nat.le_of_ble_eq_true rfl), (Nat.le_of_ble_eq_true rfl)⟩) (fun lu H locs hw37 S => ?_)
        have S : Sw G A s.heap _ _ [((ma 0), .inl (k 0, 4, .inl (fun i => nI (tk i)))), ((ma 14), .inl (k 0, 4, .inl (fun i => nI (fs i)))), ((ma 15), .inl (k 1, 3690, .inr (.inl s1))), ((ma 20), .inl (k 0, 20, .inl (fun i => nI (NQ1 i)))), (h0, .inr (8, moL ma (va_up (va_up (va_up (va_up (va_up (va_up iv 14 (nI un1)) 15 (nI co1)) 16 (nI fl1)) 18 r1) 13 (nI ((b1 + 1) + 1))) 17 (nI (n1 + 1 + 1))) co)), ((ma 1), .inl (k 0, 800, .inl wd)), ((ma 3), .inl (k 0, 800, .inl (fun i => nI (En i)))), ((ma 13), .inl (k 1, 36982, .inr (.inl lu))), ((ma 16), .inl (k 0, 20, .inl (fun i => nI ((va_up NB1 (n1 + 1) (b1 + 1)) i)))), ((ma 17), .inl (k 0, 20, .inl (fun i => nI ((va_up NA1 (n1 + 1) (m9)) i)))), ((ma 18), .inl (k 0, 20, .inl (fun i => nI ((va_up NK1 (n1 + 1) (kn1 + 1)) i)))), ((ma 19), .inl (k 0, 20, .inl (fun i => nI ((va_up (va_up NP1 n1 1) (n1 + 1) 0) i))))] := S
        have hlu := hw37
        refine lv_goto (tgt := 148) hx hb d_Mo_needOf_84 (by decide) ?_
        refine lv_goto (tgt := 18) hx hb d_Mo_needOf_148 (by decide) ?_
        obtain ⟨o1, o2, o3, o4⟩ := hlu
        refine ih _ _ _ hwf hq1 (n1 + 1) (b1 + 1) un1 co1 fl1 (b1 + 1 + 1) r1 G1 D1 lu s1 (va_up NB1 (n1 + 1) (b1 + 1)) (va_up NA1 (n1 + 1) m9) (va_up NK1 (n1 + 1) (kn1 + 1)) (va_up (va_up NP1 n1 1) (n1 + 1) 0) NQ1 (va_up_self _ _ _) (va_up_self _ _ _) (va_up_self _ _ _) (va_up_self _ _ _) rfl (by omega) (by omega) (by omega) hfo hs1 (by omega) (by omega) o1 (by rw [o2]; exact hG1) (Nat.le_trans o3 (by omega)) (by omega) (by omega) (fun un2 co2 fl2 k2 L2 s2 NB2 NA2 NK2 NP2 NQ2 hu2 hc2 hf2 hm2 hk2 ht2 hb2 ho2 ha2 H locs S ls hl => ?_) _ _ (S.sub [4, 0, 5, 6, 1, 7, 2, 8, 9, 10, 11, 3] (by decide) rfl) ls (lv_sub hl [2, 3, 4, 5] rfl)
        have S : Sw G A s.heap H locs [(h0, .inr (8, moL ma (va_up (va_up (va_up (va_up (va_up (va_up iv 14 (nI un2)) 15 (nI co2)) 16 (nI fl2)) 13 (nI k2)) 17 (nI (n1 + 1))) 18 (nI (b1 + 1))) co)), ((ma 0), .inl (k 0, 4, .inl (fun i => nI (tk i)))), ((ma 1), .inl (k 0, 800, .inl wd)), ((ma 3), .inl (k 0, 800, .inl (fun i => nI (En i)))), ((ma 14), .inl (k 0, 4, .inl (fun i => nI (fs i)))), ((ma 13), .inl (k 1, 36982, .inr (.inl L2))), ((ma 15), .inl (k 1, 3690, .inr (.inl s2))), ((ma 16), .inl (k 0, 20, .inl (fun i => nI (NB2 i)))), ((ma 17), .inl (k 0, 20, .inl (fun i => nI (NA2 i)))), ((ma 18), .inl (k 0, 20, .inl (fun i => nI (NK2 i)))), ((ma 19), .inl (k 0, 20, .inl (fun i => nI (NP2 i)))), ((ma 20), .inl (k 0, 20, .inl (fun i => nI (NQ2 i))))] := S
        have x1 := ha2 n1 (by omega)
        have cNB2 : NB2 n1 = b1 := x1.1.trans ((up_lt (by omega)).trans h1)
        have cNA2 : NA2 n1 = p1 := x1.2.1.trans ((up_lt (by omega)).trans h2)
        have cNK2 : NK2 n1 = kn1 := x1.2.2.1.trans ((up_lt (by omega)).trans h3)
        have cNP2 : NP2 n1 = 1 := x1.2.2.2.1.trans ((up_lt (by omega)).trans (va_up_self _ _ _))
        have tm := tn_mem (L := L2) (b := b1 + 1) (k := kn1) (by omega)
        have hn20 : n1 < 20 := by omega
        refine lv_aload_n hx hb d_Mo_needOf_18 rfl (lv_at hl 0 rfl) ?_
        refine r_get C K S 0 rfl rfl clOk_Mo 34 (by decide) wf_Mo_221 (v := .int (nI (n1 + 1))) rfl d_Mo_needOf_19 ?_
        refine z_if_le (a := (n1 + 1)) (tgt := 151) hx hb d_Mo_needOf_22 (by decide) (by omega) (fun hc38 => False.elim (by omega)) (fun hc38 => ?_)
        refine lv_aload_n hx hb d_Mo_needOf_25 rfl (lv_at hl 0 rfl) ?_
        refine r_get C K S 0 rfl rfl clOk_Mo 34 (by decide) wf_Mo_221 (v := .int (nI (n1 + 1))) rfl d_Mo_needOf_26 ?_
        refine lv_iconst (v := 1) hx hb d_Mo_needOf_29 (by decide) ?_
        refine z_isub (x := nI (n1 + 1)) (y := 1) (v := nI (n1 + 1 - 1)) hx hb d_Mo_needOf_30 (pk_sub (a := (n1 + 1)) (b := 1) (by omega)) ?_
        rw [show n1 + 1 - 1 = n1 from rfl]
        refine lv_istore (lv' := [(4, .int (nI n1)), (0, .ref h0), (1, .int (nI f9)), (2, .int (nI (g9 * 41))), (3, .int (nI (e9 * 41)))]) hx hb d_Mo_needOf_31 hl (by decide) rfl (fun ls hl => ?_)
        refine lv_aload_n hx hb d_Mo_needOf_33 rfl (lv_at hl 1 rfl) ?_
        refine r_get C K S 0 rfl rfl clOk_Mo 38 (by decide) wf_Mo_76 (v := .ref (ma 19)) rfl d_Mo_needOf_34 ?_
        refine lv_iload hx hb d_Mo_needOf_37 (lv_at hl 0 rfl) ?_
        refine r_iald C K S 10 rfl (i := nI n1) (show vp_in (nI n1) _ from vp_in_nI (n := n1) (by omega) (by decide)) (v := nI (NP2 n1)) (by rw [nI_clamp (by omega)]) d_Mo_needOf_39 ?_
        rw [show NP2 n1 = 1 from cNP2]
        refine lv_istore (lv' := [(5, .int (nI 1)), (4, .int (nI n1)), (0, .ref h0), (1, .int (nI f9)), (2, .int (nI (g9 * 41))), (3, .int (nI (e9 * 41)))]) hx hb d_Mo_needOf_40 hl (by decide) rfl (fun ls hl => ?_)
        refine lv_aload_n hx hb d_Mo_needOf_42 rfl (lv_at hl 2 rfl) ?_
        refine r_get C K S 0 rfl rfl clOk_Mo 38 (by decide) wf_Mo_76 (v := .ref (ma 19)) rfl d_Mo_needOf_43 ?_
        refine lv_iload hx hb d_Mo_needOf_46 (lv_at hl 1 rfl) ?_
        refine lv_dup2_11 hx hb d_Mo_needOf_48 rfl rfl ?_
        refine r_iald C K S 10 rfl (i := nI n1) (show vp_in (nI n1) _ from vp_in_nI (n := n1) (by omega) (by decide)) (v := nI (NP2 n1)) (by rw [nI_clamp (by omega)]) d_Mo_needOf_49 ?_
        rw [show NP2 n1 = 1 from cNP2]
        refine lv_iconst (v := 1) hx hb d_Mo_needOf_50 (by decide) ?_
        refine z_iadd (x := nI 1) (y := 1) (v := 2) hx hb d_Mo_needOf_51 (show _ = nI (2) from (nI_add 1 1).trans (congrArg nI (by omega))) ?_
        refine r_iast C K S 10 rfl (i := nI n1) (x := 2) (show vp_in (nI n1) _ from vp_in_nI (n := n1) (by omega) (by decide)) (f' := fun i => nI (va_up NP2 n1 2 i)) (ws' := [(h0, .inr (8, moL ma (va_up (va_up (va_up (va_up (va_up (va_up iv 14 (nI un2)) 15 (nI co2)) 16 (nI fl2)) 13 (nI k2)) 17 (nI (n1 + 1))) 18 (nI (b1 + 1))) co)), ((ma 0), .inl (k 0, 4, .inl (fun i => nI (tk i)))), ((ma 1), .inl (k 0, 800, .inl wd)), ((ma 3), .inl (k 0, 800, .inl (fun i => nI (En i)))), ((ma 14), .inl (k 0, 4, .inl (fun i => nI (fs i)))), ((ma 13), .inl (k 1, 36982, .inr (.inl L2))), ((ma 15), .inl (k 1, 3690, .inr (.inl s2))), ((ma 16), .inl (k 0, 20, .inl (fun i => nI (NB2 i)))), ((ma 17), .inl (k 0, 20, .inl (fun i => nI (NA2 i)))), ((ma 18), .inl (k 0, 20, .inl (fun i => nI (NK2 i)))), ((ma 19), .inl (k 0, 20, .inl (fun i => nI (va_up NP2 n1 2 i)))), ((ma 20), .inl (k 0, 20, .inl (fun i => nI (NQ2 i))))]) (show upd _ (nI n1 : Int32).toNatClampNeg 2 = _ from upd_nI NP2 (j := n1) (by omega) 2) rfl d_Mo_needOf_52 (fun H locs S => ?_)
        refine lv_iload hx hb d_Mo_needOf_53 (lv_at hl 0 rfl) ?_
        refine z_if_ne (a := 1) (tgt := 87) hx hb d_Mo_needOf_55 (by decide) (by omega) (fun hc39 => ?_) (fun hc39 => False.elim (by omega))
        refine lv_iload hx hb d_Mo_needOf_87 (lv_at hl 0 rfl) ?_
        refine lv_iconst (v := 1) hx hb d_Mo_needOf_89 (by decide) ?_
        refine z_icmp_ne (a := 1) (b := 1) (tgt := 122) hx hb d_Mo_needOf_90 (by decide) (by omega) (by omega) (fun hc40 => False.elim (by omega)) (fun hc40 => ?_)
        refine lv_aload_n hx hb d_Mo_needOf_93 rfl (lv_at hl 2 rfl) ?_
        refine lv_iload_n hx hb d_Mo_needOf_94 rfl (lv_at hl 3 rfl) ?_
        refine lv_aload_n hx hb d_Mo_needOf_95 rfl (lv_at hl 2 rfl) ?_
        refine r_get C K S 0 rfl rfl clOk_Mo 35 (by decide) wf_Mo_67 (v := .ref (ma 16)) rfl d_Mo_needOf_96 ?_
        refine lv_iload hx hb d_Mo_needOf_99 (lv_at hl 1 rfl) ?_
        refine r_iald C K S 7 rfl (i := nI n1) (show vp_in (nI n1) _ from vp_in_nI (n := n1) (by omega) (by decide)) (v := nI (NB2 n1)) (by rw [nI_clamp (by omega)]) d_Mo_needOf_101 ?_
        rw [show NB2 n1 = b1 from cNB2]
        refine lv_aload_n hx hb d_Mo_needOf_102 rfl (lv_at hl 2 rfl) ?_
        refine r_get C K S 0 rfl rfl clOk_Mo 36 (by decide) wf_Mo_70 (v := .ref (ma 17)) rfl d_Mo_needOf_103 ?_
        refine lv_iload hx hb d_Mo_needOf_106 (lv_at hl 1 rfl) ?_
        refine r_iald C K S 8 rfl (i := nI n1) (show vp_in (nI n1) _ from vp_in_nI (n := n1) (by omega) (by decide)) (v := nI (NA2 n1)) (by rw [nI_clamp (by omega)]) d_Mo_needOf_108 ?_
        rw [show NA2 n1 = p1 from cNA2]
        refine lv_aload_n hx hb d_Mo_needOf_109 rfl (lv_at hl 2 rfl) ?_
        refine r_get C K S 0 rfl rfl clOk_Mo 37 (by decide) wf_Mo_73 (v := .ref (ma 18)) rfl d_Mo_needOf_110 ?_
        refine lv_iload hx hb d_Mo_needOf_113 (lv_at hl 1 rfl) ?_
        refine r_iald C K S 9 rfl (i := nI n1) (show vp_in (nI n1) _ from vp_in_nI (n := n1) (by omega) (by decide)) (v := nI (NK2 n1)) (by rw [nI_clamp (by omega)]) d_Mo_needOf_115 ?_
        rw [show NK2 n1 = kn1 from cNK2]
        refine r_backv (wi := [(h0, .inr (8, moL ma (va_up (va_up (va_up (va_up (va_up (va_up iv 14 (nI un2)) 15 (nI co2)) 16 (nI fl2)) 13 (nI k2)) 17 (nI (n1 + 1))) 18 (nI (b1 + 1))) co)), ((ma 1), .inl (k 0, 800, .inl wd)), ((ma 3), .inl (k 0, 800, .inl (fun i => nI (En i)))), ((ma 13), .inl (k 1, 36982, .inr (.inl L2))), ((ma 16), .inl (k 0, 20, .inl (fun i => nI (NB2 i)))), ((ma 17), .inl (k 0, 20, .inl (fun i => nI (NA2 i)))), ((ma 18), .inl (k 0, 20, .inl (fun i => nI (NK2 i)))), ((ma 19), .inl (k 0, 20, .inl (fun i => nI (va_up NP2 n1 2 i)))), ((ma 20), .inl (k 0, 20, .inl (fun i => nI (NQ2 i))))]) (wr := [((ma 0), .inl (k 0, 4, .inl (fun i => nI (tk i)))), ((ma 14), .inl (k 0, 4, .inl (fun i => nI (fs i)))), ((ma 15), .inl (k 1, 3690, .inr (.inl s2)))]) S hA [0, 2, 3, 5, 7, 8, 9, 10, 11] [1, 4, 6] rfl rfl (by decide) (by decide) (va_runV (As := [.int (nI f9), .int (nI b1), .int (nI p1), .int (nI kn1)]) (rest := []) ⟨hx, hb, C.2.2.1, C.2.2.2.1, C.2.2.2.2.1⟩ (g_Mo_secondOf_6 l G k h0 _ f9 b1 p1 kn1 k2 n1 (b1 + 1) ma (va_up (va_up (va_up iv 14 (nI un2)) 15 (nI co2)) 16 (nI fl2)) co wd L2 En NB2 NA2 NK2 (va_up NP2 n1 2) NQ2 hf (by omega) (by omega) (by omega) (by omega) (by omega) (by omega) hk) (k_virt (n := 4) C wc_Mo_secondOf rfl rfl wz_Mo wm_Mo_254 wn_Mo_secondOf ws_Mo_secondOf (by decide +kernel) ⟨(Nat.le_of_ble_eq_true rfl), (Nat.le_of_ble_eq_true rfl)⟩) (pr_nowV K S [0, 2, 3, 5, 7, 8, 9, 10, 11] (by decide) rfl 0 rfl rfl) rfl rfl hl.1 rfl (lv_room (Nat.le_of_ble_eq_true rfl)) d_Mo_needOf_116 ⟨(Nat.le_of_ble_eq_true rfl), (Nat.le_of_ble_eq_true rfl)⟩) (fun lw H locs hw41 S => ?_)
        have S : Sw G A s.heap _ _ [((ma 0), .inl (k 0, 4, .inl (fun i => nI (tk i)))), ((ma 14), .inl (k 0, 4, .inl (fun i => nI (fs i)))), ((ma 15), .inl (k 1, 3690, .inr (.inl s2))), (h0, .inr (8, moL ma (va_up (va_up (va_up (va_up (va_up (va_up iv 14 (nI un2)) 15 (nI co2)) 16 (nI fl2)) 13 (nI (k2 + 1))) 17 (nI (n1 + 1 + 1))) 18 (nI (b1 + 1))) co)), ((ma 1), .inl (k 0, 800, .inl wd)), ((ma 3), .inl (k 0, 800, .inl (fun i => nI (En i)))), ((ma 13), .inl (k 1, 36982, .inr (.inl lw))), ((ma 16), .inl (k 0, 20, .inl (fun i => nI ((va_up NB2 (n1 + 1) k2) i)))), ((ma 17), .inl (k 0, 20, .inl (fun i => nI ((va_up NA2 (n1 + 1) (p1 + 1)) i)))), ((ma 18), .inl (k 0, 20, .inl (fun i => nI ((va_up NK2 (n1 + 1) (kn1)) i)))), ((ma 19), .inl (k 0, 20, .inl (fun i => nI ((va_up (va_up NP2 n1 2) (n1 + 1) 0) i)))), ((ma 20), .inl (k 0, 20, .inl (fun i => nI ((va_up NQ2 n1 (b1 + 1)) i))))] := S
        have hlw := hw41
        refine lv_goto (tgt := 148) hx hb d_Mo_needOf_119 (by decide) ?_
        refine lv_goto (tgt := 18) hx hb d_Mo_needOf_148 (by decide) ?_
        obtain ⟨w1, w2, w3, w4⟩ := hlw
        refine ih _ _ _ hwe (by omega) (n1 + 1) k2 un2 co2 fl2 (k2 + 1) (nI (b1 + 1)) (lz L2 (22 * (b1 + 1) + kn1)) (lz L2 (22 * (b1 + 1) + 19)) lw s2 (va_up NB2 (n1 + 1) k2) (va_up NA2 (n1 + 1) (p1 + 1)) (va_up NK2 (n1 + 1) kn1) (va_up (va_up NP2 n1 2) (n1 + 1) 0) (va_up NQ2 n1 (b1 + 1)) (va_up_self _ _ _) (va_up_self _ _ _) (va_up_self _ _ _) (va_up_self _ _ _) rfl (by omega) (by omega) (by omega) hf2 hm2 (by omega) (by omega) w1 (Nat.le_of_eq w2) (Nat.le_of_eq w3) (by omega) (by omega) (fun un3 co3 fl3 k3 L3 s3 NB3 NA3 NK3 NP3 NQ3 hu3 hc3 hf3 hm3 hk3 ht3 hb3 ho3 ha3 H locs S ls hl => ?_) _ _ (S.sub [3, 0, 4, 5, 1, 6, 2, 7, 8, 9, 10, 11] (by decide) rfl) ls (lv_sub hl [2, 3, 4, 5] rfl)
        have S : Sw G A s.heap H locs [(h0, .inr (8, moL ma (va_up (va_up (va_up (va_up (va_up (va_up iv 14 (nI un3)) 15 (nI co3)) 16 (nI fl3)) 13 (nI k3)) 17 (nI (n1 + 1))) 18 (nI k2)) co)), ((ma 0), .inl (k 0, 4, .inl (fun i => nI (tk i)))), ((ma 1), .inl (k 0, 800, .inl wd)), ((ma 3), .inl (k 0, 800, .inl (fun i => nI (En i)))), ((ma 14), .inl (k 0, 4, .inl (fun i => nI (fs i)))), ((ma 13), .inl (k 1, 36982, .inr (.inl L3))), ((ma 15), .inl (k 1, 3690, .inr (.inl s3))), ((ma 16), .inl (k 0, 20, .inl (fun i => nI (NB3 i)))), ((ma 17), .inl (k 0, 20, .inl (fun i => nI (NA3 i)))), ((ma 18), .inl (k 0, 20, .inl (fun i => nI (NK3 i)))), ((ma 19), .inl (k 0, 20, .inl (fun i => nI (NP3 i)))), ((ma 20), .inl (k 0, 20, .inl (fun i => nI (NQ3 i))))] := S
        have y1 := ha3 n1 (by omega)
        have cNB3 : NB3 n1 = b1 := y1.1.trans ((up_lt (by omega)).trans cNB2)
        have cNA3 : NA3 n1 = p1 := y1.2.1.trans ((up_lt (by omega)).trans cNA2)
        have cNK3 : NK3 n1 = kn1 := y1.2.2.1.trans ((up_lt (by omega)).trans cNK2)
        have cNP3 : NP3 n1 = 2 := y1.2.2.2.1.trans ((up_lt (by omega)).trans (va_up_self _ _ _))
        have cNQ3 : NQ3 n1 = b1 + 1 := y1.2.2.2.2.trans (va_up_self _ _ _)
        have hn20 : n1 < 20 := by omega
        refine lv_aload_n hx hb d_Mo_needOf_18 rfl (lv_at hl 0 rfl) ?_
        refine r_get C K S 0 rfl rfl clOk_Mo 34 (by decide) wf_Mo_221 (v := .int (nI (n1 + 1))) rfl d_Mo_needOf_19 ?_
        refine z_if_le (a := (n1 + 1)) (tgt := 151) hx hb d_Mo_needOf_22 (by decide) (by omega) (fun hc42 => False.elim (by omega)) (fun hc42 => ?_)
        refine lv_aload_n hx hb d_Mo_needOf_25 rfl (lv_at hl 0 rfl) ?_
        refine r_get C K S 0 rfl rfl clOk_Mo 34 (by decide) wf_Mo_221 (v := .int (nI (n1 + 1))) rfl d_Mo_needOf_26 ?_
        refine lv_iconst (v := 1) hx hb d_Mo_needOf_29 (by decide) ?_
        refine z_isub (x := nI (n1 + 1)) (y := 1) (v := nI (n1 + 1 - 1)) hx hb d_Mo_needOf_30 (pk_sub (a := (n1 + 1)) (b := 1) (by omega)) ?_
        rw [show n1 + 1 - 1 = n1 from rfl]
        refine lv_istore (lv' := [(4, .int (nI n1)), (0, .ref h0), (1, .int (nI f9)), (2, .int (nI (g9 * 41))), (3, .int (nI (e9 * 41)))]) hx hb d_Mo_needOf_31 hl (by decide) rfl (fun ls hl => ?_)
        refine lv_aload_n hx hb d_Mo_needOf_33 rfl (lv_at hl 1 rfl) ?_
        refine r_get C K S 0 rfl rfl clOk_Mo 38 (by decide) wf_Mo_76 (v := .ref (ma 19)) rfl d_Mo_needOf_34 ?_
        refine lv_iload hx hb d_Mo_needOf_37 (lv_at hl 0 rfl) ?_
        refine r_iald C K S 10 rfl (i := nI n1) (show vp_in (nI n1) _ from vp_in_nI (n := n1) (by omega) (by decide)) (v := nI (NP3 n1)) (by rw [nI_clamp (by omega)]) d_Mo_needOf_39 ?_
        rw [show NP3 n1 = 2 from cNP3]
        refine lv_istore (lv' := [(5, .int (nI 2)), (4, .int (nI n1)), (0, .ref h0), (1, .int (nI f9)), (2, .int (nI (g9 * 41))), (3, .int (nI (e9 * 41)))]) hx hb d_Mo_needOf_40 hl (by decide) rfl (fun ls hl => ?_)
        refine lv_aload_n hx hb d_Mo_needOf_42 rfl (lv_at hl 2 rfl) ?_
        refine r_get C K S 0 rfl rfl clOk_Mo 38 (by decide) wf_Mo_76 (v := .ref (ma 19)) rfl d_Mo_needOf_43 ?_
        refine lv_iload hx hb d_Mo_needOf_46 (lv_at hl 1 rfl) ?_
        refine lv_dup2_11 hx hb d_Mo_needOf_48 rfl rfl ?_
        refine r_iald C K S 10 rfl (i := nI n1) (show vp_in (nI n1) _ from vp_in_nI (n := n1) (by omega) (by decide)) (v := nI (NP3 n1)) (by rw [nI_clamp (by omega)]) d_Mo_needOf_49 ?_
        rw [show NP3 n1 = 2 from cNP3]
        refine lv_iconst (v := 1) hx hb d_Mo_needOf_50 (by decide) ?_
        refine z_iadd (x := nI 2) (y := 1) (v := 3) hx hb d_Mo_needOf_51 (show _ = nI (3) from (nI_add 2 1).trans (congrArg nI (by omega))) ?_
        refine r_iast C K S 10 rfl (i := nI n1) (x := 3) (show vp_in (nI n1) _ from vp_in_nI (n := n1) (by omega) (by decide)) (f' := fun i => nI (va_up NP3 n1 3 i)) (ws' := [(h0, .inr (8, moL ma (va_up (va_up (va_up (va_up (va_up (va_up iv 14 (nI un3)) 15 (nI co3)) 16 (nI fl3)) 13 (nI k3)) 17 (nI (n1 + 1))) 18 (nI k2)) co)), ((ma 0), .inl (k 0, 4, .inl (fun i => nI (tk i)))), ((ma 1), .inl (k 0, 800, .inl wd)), ((ma 3), .inl (k 0, 800, .inl (fun i => nI (En i)))), ((ma 14), .inl (k 0, 4, .inl (fun i => nI (fs i)))), ((ma 13), .inl (k 1, 36982, .inr (.inl L3))), ((ma 15), .inl (k 1, 3690, .inr (.inl s3))), ((ma 16), .inl (k 0, 20, .inl (fun i => nI (NB3 i)))), ((ma 17), .inl (k 0, 20, .inl (fun i => nI (NA3 i)))), ((ma 18), .inl (k 0, 20, .inl (fun i => nI (NK3 i)))), ((ma 19), .inl (k 0, 20, .inl (fun i => nI (va_up NP3 n1 3 i)))), ((ma 20), .inl (k 0, 20, .inl (fun i => nI (NQ3 i))))]) (show upd _ (nI n1 : Int32).toNatClampNeg 3 = _ from upd_nI NP3 (j := n1) (by omega) 3) rfl d_Mo_needOf_52 (fun H locs S => ?_)
        refine lv_iload hx hb d_Mo_needOf_53 (lv_at hl 0 rfl) ?_
        refine z_if_ne (a := 2) (tgt := 87) hx hb d_Mo_needOf_55 (by decide) (by omega) (fun hc43 => ?_) (fun hc43 => False.elim (by omega))
        refine lv_iload hx hb d_Mo_needOf_87 (lv_at hl 0 rfl) ?_
        refine lv_iconst (v := 1) hx hb d_Mo_needOf_89 (by decide) ?_
        refine z_icmp_ne (a := 2) (b := 1) (tgt := 122) hx hb d_Mo_needOf_90 (by decide) (by omega) (by omega) (fun hc44 => ?_) (fun hc44 => False.elim (by omega))
        refine lv_aload_n hx hb d_Mo_needOf_122 rfl (lv_at hl 2 rfl) ?_
        refine lv_iload_n hx hb d_Mo_needOf_123 rfl (lv_at hl 3 rfl) ?_
        refine lv_aload_n hx hb d_Mo_needOf_124 rfl (lv_at hl 2 rfl) ?_
        refine r_get C K S 0 rfl rfl clOk_Mo 35 (by decide) wf_Mo_67 (v := .ref (ma 16)) rfl d_Mo_needOf_125 ?_
        refine lv_iload hx hb d_Mo_needOf_128 (lv_at hl 1 rfl) ?_
        refine r_iald C K S 7 rfl (i := nI n1) (show vp_in (nI n1) _ from vp_in_nI (n := n1) (by omega) (by decide)) (v := nI (NB3 n1)) (by rw [nI_clamp (by omega)]) d_Mo_needOf_130 ?_
        rw [show NB3 n1 = b1 from cNB3]
        refine lv_aload_n hx hb d_Mo_needOf_131 rfl (lv_at hl 2 rfl) ?_
        refine r_get C K S 0 rfl rfl clOk_Mo 36 (by decide) wf_Mo_70 (v := .ref (ma 17)) rfl d_Mo_needOf_132 ?_
        refine lv_iload hx hb d_Mo_needOf_135 (lv_at hl 1 rfl) ?_
        refine r_iald C K S 8 rfl (i := nI n1) (show vp_in (nI n1) _ from vp_in_nI (n := n1) (by omega) (by decide)) (v := nI (NA3 n1)) (by rw [nI_clamp (by omega)]) d_Mo_needOf_137 ?_
        rw [show NA3 n1 = p1 from cNA3]
        refine lv_aload_n hx hb d_Mo_needOf_138 rfl (lv_at hl 2 rfl) ?_
        refine r_get C K S 0 rfl rfl clOk_Mo 37 (by decide) wf_Mo_73 (v := .ref (ma 18)) rfl d_Mo_needOf_139 ?_
        refine lv_iload hx hb d_Mo_needOf_142 (lv_at hl 1 rfl) ?_
        refine r_iald C K S 9 rfl (i := nI n1) (show vp_in (nI n1) _ from vp_in_nI (n := n1) (by omega) (by decide)) (v := nI (NK3 n1)) (by rw [nI_clamp (by omega)]) d_Mo_needOf_144 ?_
        rw [show NK3 n1 = kn1 from cNK3]
        refine r_backv (wi := [(h0, .inr (8, moL ma (va_up (va_up (va_up (va_up (va_up (va_up iv 14 (nI un3)) 15 (nI co3)) 16 (nI fl3)) 13 (nI k3)) 17 (nI (n1 + 1))) 18 (nI k2)) co)), ((ma 1), .inl (k 0, 800, .inl wd)), ((ma 13), .inl (k 1, 36982, .inr (.inl L3))), ((ma 16), .inl (k 0, 20, .inl (fun i => nI (NB3 i)))), ((ma 20), .inl (k 0, 20, .inl (fun i => nI (NQ3 i))))]) (wr := [((ma 0), .inl (k 0, 4, .inl (fun i => nI (tk i)))), ((ma 3), .inl (k 0, 800, .inl (fun i => nI (En i)))), ((ma 14), .inl (k 0, 4, .inl (fun i => nI (fs i)))), ((ma 15), .inl (k 1, 3690, .inr (.inl s3))), ((ma 17), .inl (k 0, 20, .inl (fun i => nI (NA3 i)))), ((ma 18), .inl (k 0, 20, .inl (fun i => nI (NK3 i)))), ((ma 19), .inl (k 0, 20, .inl (fun i => nI (va_up NP3 n1 3 i))))]) S hA [0, 2, 5, 7, 11] [1, 3, 4, 6, 8, 9, 10] rfl rfl (by decide) (by decide) (va_runV (As := [.int (nI f9), .int (nI b1), .int (nI p1), .int (nI kn1)]) (rest := []) ⟨hx, hb, C.2.2.1, C.2.2.2.1, C.2.2.2.2.1⟩ (g_Mo_thirdOf_6 l G k h0 _ f9 b1 p1 kn1 n1 k2 (b1 + 1) ma (va_up (va_up (va_up (va_up iv 14 (nI un3)) 15 (nI co3)) 16 (nI fl3)) 13 (nI k3)) co wd L3 NB3 NQ3 hf (by omega) (by omega) (by omega) hn20 (by omega) (by omega) cNQ3 hk) (k_virt (n := 4) C wc_Mo_thirdOf rfl rfl wz_Mo wm_Mo_257 wn_Mo_thirdOf ws_Mo_thirdOf (by decide +kernel) ⟨(Nat.le_of_ble_eq_true rfl), (Nat.le_of_ble_eq_true rfl)⟩) (pr_nowV K S [0, 2, 5, 7, 11] (by decide) rfl 0 rfl rfl) rfl rfl hl.1 rfl (lv_room (Nat.le_of_ble_eq_true rfl)) d_Mo_needOf_145 ⟨(Nat.le_of_ble_eq_true rfl), (Nat.le_of_ble_eq_true rfl)⟩) (fun lx H locs hw45 S => ?_)
        have S : Sw G A s.heap _ _ [((ma 0), .inl (k 0, 4, .inl (fun i => nI (tk i)))), ((ma 3), .inl (k 0, 800, .inl (fun i => nI (En i)))), ((ma 14), .inl (k 0, 4, .inl (fun i => nI (fs i)))), ((ma 15), .inl (k 1, 3690, .inr (.inl s3))), ((ma 17), .inl (k 0, 20, .inl (fun i => nI (NA3 i)))), ((ma 18), .inl (k 0, 20, .inl (fun i => nI (NK3 i)))), ((ma 19), .inl (k 0, 20, .inl (fun i => nI (va_up NP3 n1 3 i)))), (h0, .inr (8, moL ma (va_up (va_up (va_up (va_up (va_up (va_up iv 14 (nI un3)) 15 (nI co3)) 16 (nI fl3)) 13 (nI k3)) 17 (nI n1)) 18 (nI (NB3 n1))) co)), ((ma 1), .inl (k 0, 800, .inl wd)), ((ma 13), .inl (k 1, 36982, .inr (.inl lx))), ((ma 16), .inl (k 0, 20, .inl (fun i => nI (NB3 i)))), ((ma 20), .inl (k 0, 20, .inl (fun i => nI (NQ3 i))))] := S
        have hlx := hw45
        refine lv_goto (tgt := 18) hx hb d_Mo_needOf_148 (by decide) ?_
        have S : Sw G A s.heap H locs [((ma 0), .inl (k 0, 4, .inl (fun i => nI (tk i)))), ((ma 3), .inl (k 0, 800, .inl (fun i => nI (En i)))), ((ma 14), .inl (k 0, 4, .inl (fun i => nI (fs i)))), ((ma 15), .inl (k 1, 3690, .inr (.inl s3))), ((ma 17), .inl (k 0, 20, .inl (fun i => nI (NA3 i)))), ((ma 18), .inl (k 0, 20, .inl (fun i => nI (NK3 i)))), ((ma 19), .inl (k 0, 20, .inl (fun i => nI (va_up NP3 n1 3 i)))), (h0, .inr (8, moL ma (va_up (va_up (va_up (va_up (va_up (va_up iv 14 (nI un3)) 15 (nI co3)) 16 (nI fl3)) 13 (nI k3)) 17 (nI n1)) 18 (nI b1)) co)), ((ma 1), .inl (k 0, 800, .inl wd)), ((ma 13), .inl (k 1, 36982, .inr (.inl lx))), ((ma 16), .inl (k 0, 20, .inl (fun i => nI (NB3 i)))), ((ma 20), .inl (k 0, 20, .inl (fun i => nI (NQ3 i))))] := by rw [cNB3] at S; exact S
        have e1 : tn L3 (b1 + 1) = tn L2 (b1 + 1) := tn_shift (fun k9 hk9 => by rw [ho3 _ (by omega)]; exact w4 _ (by omega))
        have e2 : lz L3 (22 * (b1 + 1) + kn1) = lz L2 (22 * (b1 + 1) + kn1) := by rw [ho3 _ (by omega)]; exact w4 _ (by omega)
        have e3 := tn_sum (kn := kn1) (by omega) hlx.1
        rw [e1, e2] at e3
        exact kont un3 co3 fl3 k3 lx s3 NB3 NA3 NK3 (va_up NP3 n1 3) NQ3 (by rw [hu3, hu2]; omega) (by rw [hc3, hc2]; omega) hf3 hm3 (by rw [hk3, hk2]; omega) (by omega) (by rw [hlx.2.1]; omega) (fun x hx => by rw [hlx.2.2 x (by omega), ho3 x (by omega), w4 x (by omega), ho2 x (by omega)]; exact o4 x (by omega)) (fun i hi => ⟨by rw [(ha3 i (by omega)).1, up_lt (by omega), (ha2 i (by omega)).1, up_lt (by omega)], by rw [(ha3 i (by omega)).2.1, up_lt (by omega), (ha2 i (by omega)).2.1, up_lt (by omega)], by rw [(ha3 i (by omega)).2.2.1, up_lt (by omega), (ha2 i (by omega)).2.2.1, up_lt (by omega)], by rw [up_lt hi, (ha3 i (by omega)).2.2.2.1, up_lt (by omega), up_lt hi, (ha2 i (by omega)).2.2.2.1, up_lt (by omega), up_lt hi], by rw [(ha3 i (by omega)).2.2.2.2, up_lt hi, (ha2 i (by omega)).2.2.2.2]⟩) _ _ (S.sub [7, 0, 8, 1, 2, 9, 3, 10, 4, 5, 6, 11] (by decide) rfl) ls (lv_sub hl [2, 3, 4, 5] rfl)
  have ndp := nd_pos hw
  refine lv_aload_n hx hb d_Mo_needOf_0 rfl (lv_at hl 0 rfl) ?_
  refine lv_iconst (v := 0) hx hb d_Mo_needOf_1 (by decide) ?_
  refine r_put C K S 0 rfl rfl clOk_Mo 34 (by decide) wf_Mo_221 rfl (ty := .int) (v := .int 0) (by decide +kernel) rfl rfl (Nat.le_of_ble_eq_true rfl) (fs' := moL ma (va_up (va_up (va_up (va_up (va_up iv 14 (nI un)) 15 (nI co9)) 16 (nI fl)) 13 (nI bk)) 17 0) co) (ws' := [(h0, .inr (8, moL ma (va_up (va_up (va_up (va_up (va_up iv 14 (nI un)) 15 (nI co9)) 16 (nI fl)) 13 (nI bk)) 17 0) co)), ((ma 0), .inl (k 0, 4, .inl (fun i => nI (tk i)))), ((ma 1), .inl (k 0, 800, .inl wd)), ((ma 3), .inl (k 0, 800, .inl (fun i => nI (En i)))), ((ma 14), .inl (k 0, 4, .inl (fun i => nI (fs i)))), ((ma 13), .inl (k 1, 36982, .inr (.inl L))), ((ma 15), .inl (k 1, 3690, .inr (.inl sm))), ((ma 16), .inl (k 0, 20, .inl (fun i => nI (NB i)))), ((ma 17), .inl (k 0, 20, .inl (fun i => nI (NA i)))), ((ma 18), .inl (k 0, 20, .inl (fun i => nI (NK i)))), ((ma 19), .inl (k 0, 20, .inl (fun i => nI (NP i)))), ((ma 20), .inl (k 0, 20, .inl (fun i => nI (NQ i))))]) rfl rfl d_Mo_needOf_2 (fun H locs S => ?_)
  refine lv_aload_n hx hb d_Mo_needOf_5 rfl (lv_at hl 0 rfl) ?_
  refine lv_iconst (v := 0) hx hb d_Mo_needOf_6 (by decide) ?_
  refine lv_aload_n hx hb d_Mo_needOf_7 rfl (lv_at hl 0 rfl) ?_
  refine r_get C K S 0 rfl rfl clOk_Mo 1 (by decide) wf_Mo_9 (v := .ref (ma 0)) rfl d_Mo_needOf_8 ?_
  refine lv_iload_n hx hb d_Mo_needOf_11 rfl (lv_at hl 1 rfl) ?_
  refine r_iald C K S 1 rfl (i := nI f9) (show vp_in (nI f9) _ from vp_in_nI (n := f9) (by omega) (by decide)) (v := nI (tk f9)) (by rw [nI_clamp (by omega)]) d_Mo_needOf_12 ?_
  refine lv_iload_n hx hb d_Mo_needOf_13 rfl (lv_at hl 2 rfl) ?_
  refine lv_iload_n hx hb d_Mo_needOf_14 rfl (lv_at hl 3 rfl) ?_
  refine r_backv (wi := [(h0, .inr (8, moL ma (va_up (va_up (va_up (va_up (va_up iv 14 (nI un)) 15 (nI co9)) 16 (nI fl)) 13 (nI bk)) 17 (nI 0)) co)), ((ma 13), .inl (k 1, 36982, .inr (.inl L))), ((ma 16), .inl (k 0, 20, .inl (fun i => nI (NB i)))), ((ma 17), .inl (k 0, 20, .inl (fun i => nI (NA i)))), ((ma 18), .inl (k 0, 20, .inl (fun i => nI (NK i)))), ((ma 19), .inl (k 0, 20, .inl (fun i => nI (NP i))))]) (wr := [((ma 0), .inl (k 0, 4, .inl (fun i => nI (tk i)))), ((ma 1), .inl (k 0, 800, .inl wd)), ((ma 3), .inl (k 0, 800, .inl (fun i => nI (En i)))), ((ma 14), .inl (k 0, 4, .inl (fun i => nI (fs i)))), ((ma 15), .inl (k 1, 3690, .inr (.inl sm))), ((ma 20), .inl (k 0, 20, .inl (fun i => nI (NQ i))))]) S hA [0, 5, 7, 8, 9, 10] [1, 2, 3, 4, 6, 11] rfl rfl (by decide) (by decide) (va_runV (As := [.int 0, .int (nI (tk f9)), .int (nI (g9 * 41)), .int (nI (e9 * 41))]) (rest := []) ⟨hx, hb, C.2.2.1, C.2.2.2.1, C.2.2.2.2.1⟩ (g_Mo_openNeed l G k h0 _ 0 (tk f9) g9 e9 bk 0 ma (va_up (va_up (va_up iv 14 (nI un)) 15 (nI co9)) 16 (nI fl)) co L NB NA NK NP (by omega) hg he (by omega)) (k_virt (n := 4) C wc_Mo_openNeed rfl rfl wz_Mo wm_Mo_230 wn_Mo_openNeed ws_Mo_openNeed (by decide +kernel) ⟨(Nat.le_of_ble_eq_true rfl), (Nat.le_of_ble_eq_true rfl)⟩) (pr_nowV K S [0, 5, 7, 8, 9, 10] (by decide) rfl 0 rfl rfl) rfl rfl hl.1 rfl (lv_room (Nat.le_of_ble_eq_true rfl)) d_Mo_needOf_15 ⟨(Nat.le_of_ble_eq_true rfl), (Nat.le_of_ble_eq_true rfl)⟩) (fun lu H locs hw46 S => ?_)
  have S : Sw G A s.heap _ _ [((ma 0), .inl (k 0, 4, .inl (fun i => nI (tk i)))), ((ma 1), .inl (k 0, 800, .inl wd)), ((ma 3), .inl (k 0, 800, .inl (fun i => nI (En i)))), ((ma 14), .inl (k 0, 4, .inl (fun i => nI (fs i)))), ((ma 15), .inl (k 1, 3690, .inr (.inl sm))), ((ma 20), .inl (k 0, 20, .inl (fun i => nI (NQ i)))), (h0, .inr (8, moL ma (va_up (va_up (va_up (va_up (va_up iv 14 (nI un)) 15 (nI co9)) 16 (nI fl)) 13 (nI (bk + 1))) 17 (nI (0 + 1))) co)), ((ma 13), .inl (k 1, 36982, .inr (.inl lu))), ((ma 16), .inl (k 0, 20, .inl (fun i => nI ((va_up NB 0 bk) i)))), ((ma 17), .inl (k 0, 20, .inl (fun i => nI ((va_up NA 0 0) i)))), ((ma 18), .inl (k 0, 20, .inl (fun i => nI ((va_up NK 0 (tk f9)) i)))), ((ma 19), .inl (k 0, 20, .inl (fun i => nI ((va_up NP 0 0) i))))] := S
  obtain ⟨o1, o2, o3, o4⟩ := hw46
  have htf := htk f9 hf
  have rdx : ∃ r0 : Int32, iv 18 = r0 := ⟨_, rfl⟩
  refine main 16 0 q9 (tk f9) hw hq 0 bk un co9 fl (bk + 1) (iv 18) 1 1 lu sm (va_up NB 0 bk) (va_up NA 0 0) (va_up NK 0 (tk f9)) (va_up NP 0 0) NQ (va_up_self _ _ _) (va_up_self _ _ _) (va_up_self _ _ _) (va_up_self _ _ _) rfl hnd (by omega) (by omega) hflo hsm hun hco o1 (by rw [o2]; exact hg1) (by rw [o3]; exact he1) (by omega) (by omega) (fun un2 co2 fl2 k2 L2 s2 NB2 NA2 NK2 NP2 NQ2 hu2 hc2 hf2 hm2 hk2 ht2 hb2 ho2 ha2 H locs S ls hl => ?_) _ _ (S.sub [6, 0, 1, 2, 3, 7, 4, 8, 9, 10, 11, 5] (by decide) rfl) ls (lv_sub hl [0, 1, 2, 3] rfl)
  have S : Sw G A s.heap H locs [(h0, .inr (8, moL ma (va_up (va_up (va_up (va_up (va_up (va_up iv 14 (nI un2)) 15 (nI co2)) 16 (nI fl2)) 13 (nI k2)) 17 0) 18 (nI bk)) co)), ((ma 0), .inl (k 0, 4, .inl (fun i => nI (tk i)))), ((ma 1), .inl (k 0, 800, .inl wd)), ((ma 3), .inl (k 0, 800, .inl (fun i => nI (En i)))), ((ma 14), .inl (k 0, 4, .inl (fun i => nI (fs i)))), ((ma 13), .inl (k 1, 36982, .inr (.inl L2))), ((ma 15), .inl (k 1, 3690, .inr (.inl s2))), ((ma 16), .inl (k 0, 20, .inl (fun i => nI (NB2 i)))), ((ma 17), .inl (k 0, 20, .inl (fun i => nI (NA2 i)))), ((ma 18), .inl (k 0, 20, .inl (fun i => nI (NK2 i)))), ((ma 19), .inl (k 0, 20, .inl (fun i => nI (NP2 i)))), ((ma 20), .inl (k 0, 20, .inl (fun i => nI (NQ2 i))))] := S
  subst hu2
  subst hc2
  have S : Sw G A s.heap H locs [(h0, .inr (8, moL ma (va_up (va_up (va_up (va_up (va_up (va_up iv 14 (nI (un + ucT (wdF wd f9) tk (enF En f9) 16 (tk f9) 0))) 15 (nI (co9 + ccT (wdF wd f9) tk (enF En f9) 16 (tk f9) 0))) 16 (nI fl2)) 13 (nI k2)) 17 0) 18 (nI bk)) co)), ((ma 0), .inl (k 0, 4, .inl (fun i => nI (tk i)))), ((ma 1), .inl (k 0, 800, .inl wd)), ((ma 3), .inl (k 0, 800, .inl (fun i => nI (En i)))), ((ma 14), .inl (k 0, 4, .inl (fun i => nI (fs i)))), ((ma 13), .inl (k 1, 36982, .inr (.inl L2))), ((ma 15), .inl (k 1, 3690, .inr (.inl s2))), ((ma 16), .inl (k 0, 20, .inl (fun i => nI (NB2 i)))), ((ma 17), .inl (k 0, 20, .inl (fun i => nI (NA2 i)))), ((ma 18), .inl (k 0, 20, .inl (fun i => nI (NK2 i)))), ((ma 19), .inl (k 0, 20, .inl (fun i => nI (NP2 i)))), ((ma 20), .inl (k 0, 20, .inl (fun i => nI (NQ2 i))))] := S
  refine lv_aload_n hx hb d_Mo_needOf_18 rfl (lv_at hl 0 rfl) ?_
  refine r_get C K S 0 rfl rfl clOk_Mo 34 (by decide) wf_Mo_221 (v := .int 0) rfl d_Mo_needOf_19 ?_
  refine lv_if_le (tgt := 151) hx hb d_Mo_needOf_22 (by decide) (fun _ => ?_) (fun hq => absurd (by decide) hq)
  refine lv_aload_n hx hb d_Mo_needOf_151 rfl (lv_at hl 0 rfl) ?_
  refine r_get C K S 0 rfl rfl clOk_Mo 40 (by decide) wf_Mo_241 (v := .int (nI bk)) rfl d_Mo_needOf_152 ?_
  exact r_iret C K rfl (L2, s2, fl2, uz [NB2, NA2, NK2, NP2, NQ2], k2) ⟨rfl, hf2, hm2, ht2, hb2⟩ (S.sub [0, 1, 2, 3, 4, 5, 6, 7, 8, 9, 10, 11] (by decide) rfl) d_Mo_needOf_155 (Nat.le_of_ble_eq_true rfl) (Nat.le_of_ble_eq_true rfl)
end
section
theorem d_Mo_needBody_0 : decode c_Mo_needBody 0 = .ok (.aload_n 0, 1) := by decide +kernel
theorem d_Mo_needBody_1 : decode c_Mo_needBody 1 = .ok (.iconst 0, 1) := by decide +kernel
theorem d_Mo_needBody_2 : decode c_Mo_needBody 2 = .ok (.putfield 208, 3) := by decide +kernel
theorem d_Mo_needBody_5 : decode c_Mo_needBody 5 = .ok (.aload_n 0, 1) := by decide +kernel
theorem d_Mo_needBody_6 : decode c_Mo_needBody 6 = .ok (.bipush 40, 2) := by decide +kernel
theorem d_Mo_needBody_8 : decode c_Mo_needBody 8 = .ok (.bipush 20, 2) := by decide +kernel
theorem d_Mo_needBody_10 : decode c_Mo_needBody 10 = .ok (.invokestatic 211, 3) := by decide +kernel
theorem d_Mo_needBody_13 : decode c_Mo_needBody 13 = .ok (.invokevirtual 214, 3) := by decide +kernel
theorem d_Mo_needBody_16 : decode c_Mo_needBody 16 = .ok (.aload_n 0, 1) := by decide +kernel
theorem d_Mo_needBody_17 : decode c_Mo_needBody 17 = .ok (.bipush 40, 2) := by decide +kernel
theorem d_Mo_needBody_19 : decode c_Mo_needBody 19 = .ok (.bipush 21, 2) := by decide +kernel
theorem d_Mo_needBody_21 : decode c_Mo_needBody 21 = .ok (.invokestatic 211, 3) := by decide +kernel
theorem d_Mo_needBody_24 : decode c_Mo_needBody 24 = .ok (.invokevirtual 214, 3) := by decide +kernel
theorem d_Mo_needBody_27 : decode c_Mo_needBody 27 = .ok (.aload_n 0, 1) := by decide +kernel
theorem d_Mo_needBody_28 : decode c_Mo_needBody 28 = .ok (.getfield 57, 3) := by decide +kernel
theorem d_Mo_needBody_31 : decode c_Mo_needBody 31 = .ok (.bipush 40, 2) := by decide +kernel
theorem d_Mo_needBody_33 : decode c_Mo_needBody 33 = .ok (.bipush 20, 2) := by decide +kernel
theorem d_Mo_needBody_35 : decode c_Mo_needBody 35 = .ok (.invokestatic 211, 3) := by decide +kernel
theorem d_Mo_needBody_38 : decode c_Mo_needBody 38 = .ok (.aload_n 0, 1) := by decide +kernel
theorem d_Mo_needBody_39 : decode c_Mo_needBody 39 = .ok (.iload_n 1, 1) := by decide +kernel
theorem d_Mo_needBody_40 : decode c_Mo_needBody 40 = .ok (.aload_n 0, 1) := by decide +kernel
theorem d_Mo_needBody_41 : decode c_Mo_needBody 41 = .ok (.getfield 9, 3) := by decide +kernel
theorem d_Mo_needBody_44 : decode c_Mo_needBody 44 = .ok (.iload_n 1, 1) := by decide +kernel
theorem d_Mo_needBody_45 : decode c_Mo_needBody 45 = .ok (.iaload, 1) := by decide +kernel
theorem d_Mo_needBody_46 : decode c_Mo_needBody 46 = .ok (.iconst 1, 1) := by decide +kernel
theorem d_Mo_needBody_47 : decode c_Mo_needBody 47 = .ok (.iadd, 1) := by decide +kernel
theorem d_Mo_needBody_48 : decode c_Mo_needBody 48 = .ok (.invokevirtual 263, 3) := by decide +kernel
theorem d_Mo_needBody_51 : decode c_Mo_needBody 51 = .ok (.iadd, 1) := by decide +kernel
theorem d_Mo_needBody_52 : decode c_Mo_needBody 52 = .ok (.lconst 1, 1) := by decide +kernel
theorem d_Mo_needBody_53 : decode c_Mo_needBody 53 = .ok (.lastore, 1) := by decide +kernel
theorem d_Mo_needBody_54 : decode c_Mo_needBody 54 = .ok (.aload_n 0, 1) := by decide +kernel
theorem d_Mo_needBody_55 : decode c_Mo_needBody 55 = .ok (.getfield 57, 3) := by decide +kernel
theorem d_Mo_needBody_58 : decode c_Mo_needBody 58 = .ok (.bipush 40, 2) := by decide +kernel
theorem d_Mo_needBody_60 : decode c_Mo_needBody 60 = .ok (.bipush 21, 2) := by decide +kernel
theorem d_Mo_needBody_62 : decode c_Mo_needBody 62 = .ok (.invokestatic 211, 3) := by decide +kernel
theorem d_Mo_needBody_65 : decode c_Mo_needBody 65 = .ok (.aload_n 0, 1) := by decide +kernel
theorem d_Mo_needBody_66 : decode c_Mo_needBody 66 = .ok (.iload_n 1, 1) := by decide +kernel
theorem d_Mo_needBody_67 : decode c_Mo_needBody 67 = .ok (.aload_n 0, 1) := by decide +kernel
theorem d_Mo_needBody_68 : decode c_Mo_needBody 68 = .ok (.getfield 9, 3) := by decide +kernel
theorem d_Mo_needBody_71 : decode c_Mo_needBody 71 = .ok (.iload_n 1, 1) := by decide +kernel
theorem d_Mo_needBody_72 : decode c_Mo_needBody 72 = .ok (.iaload, 1) := by decide +kernel
theorem d_Mo_needBody_73 : decode c_Mo_needBody 73 = .ok (.iconst 2, 1) := by decide +kernel
theorem d_Mo_needBody_74 : decode c_Mo_needBody 74 = .ok (.iadd, 1) := by decide +kernel
theorem d_Mo_needBody_75 : decode c_Mo_needBody 75 = .ok (.invokevirtual 263, 3) := by decide +kernel
theorem d_Mo_needBody_78 : decode c_Mo_needBody 78 = .ok (.iadd, 1) := by decide +kernel
theorem d_Mo_needBody_79 : decode c_Mo_needBody 79 = .ok (.lconst 1, 1) := by decide +kernel
theorem d_Mo_needBody_80 : decode c_Mo_needBody 80 = .ok (.lastore, 1) := by decide +kernel
theorem d_Mo_needBody_81 : decode c_Mo_needBody 81 = .ok (.aload_n 0, 1) := by decide +kernel
theorem d_Mo_needBody_82 : decode c_Mo_needBody 82 = .ok (.iload_n 1, 1) := by decide +kernel
theorem d_Mo_needBody_83 : decode c_Mo_needBody 83 = .ok (.bipush 40, 2) := by decide +kernel
theorem d_Mo_needBody_85 : decode c_Mo_needBody 85 = .ok (.bipush 20, 2) := by decide +kernel
theorem d_Mo_needBody_87 : decode c_Mo_needBody 87 = .ok (.invokestatic 211, 3) := by decide +kernel
theorem d_Mo_needBody_90 : decode c_Mo_needBody 90 = .ok (.bipush 40, 2) := by decide +kernel
theorem d_Mo_needBody_92 : decode c_Mo_needBody 92 = .ok (.bipush 21, 2) := by decide +kernel
theorem d_Mo_needBody_94 : decode c_Mo_needBody 94 = .ok (.invokestatic 211, 3) := by decide +kernel
theorem d_Mo_needBody_97 : decode c_Mo_needBody 97 = .ok (.invokevirtual 273, 3) := by decide +kernel
theorem d_Mo_needBody_100 : decode c_Mo_needBody 100 = .ok (.istore_n 2, 1) := by decide +kernel
theorem d_Mo_needBody_101 : decode c_Mo_needBody 101 = .ok (.iconst 0, 1) := by decide +kernel
theorem d_Mo_needBody_102 : decode c_Mo_needBody 102 = .ok (.istore_n 3, 1) := by decide +kernel
theorem d_Mo_needBody_103 : decode c_Mo_needBody 103 = .ok (.iload_n 3, 1) := by decide +kernel
theorem d_Mo_needBody_104 : decode c_Mo_needBody 104 = .ok (.aload_n 0, 1) := by decide +kernel
theorem d_Mo_needBody_105 : decode c_Mo_needBody 105 = .ok (.getfield 9, 3) := by decide +kernel
theorem d_Mo_needBody_108 : decode c_Mo_needBody 108 = .ok (.iload_n 1, 1) := by decide +kernel
theorem d_Mo_needBody_109 : decode c_Mo_needBody 109 = .ok (.iaload, 1) := by decide +kernel
theorem d_Mo_needBody_110 : decode c_Mo_needBody 110 = .ok (.if_icmp .ge 24, 3) := by decide +kernel
theorem d_Mo_needBody_113 : decode c_Mo_needBody 113 = .ok (.aload_n 0, 1) := by decide +kernel
theorem d_Mo_needBody_114 : decode c_Mo_needBody 114 = .ok (.aload_n 0, 1) := by decide +kernel
theorem d_Mo_needBody_115 : decode c_Mo_needBody 115 = .ok (.iload_n 1, 1) := by decide +kernel
theorem d_Mo_needBody_116 : decode c_Mo_needBody 116 = .ok (.iload_n 3, 1) := by decide +kernel
theorem d_Mo_needBody_117 : decode c_Mo_needBody 117 = .ok (.invokevirtual 263, 3) := by decide +kernel
theorem d_Mo_needBody_120 : decode c_Mo_needBody 120 = .ok (.iload_n 2, 1) := by decide +kernel
theorem d_Mo_needBody_121 : decode c_Mo_needBody 121 = .ok (.iload_n 3, 1) := by decide +kernel
theorem d_Mo_needBody_122 : decode c_Mo_needBody 122 = .ok (.invokestatic 211, 3) := by decide +kernel
theorem d_Mo_needBody_125 : decode c_Mo_needBody 125 = .ok (.invokevirtual 266, 3) := by decide +kernel
theorem d_Mo_needBody_128 : decode c_Mo_needBody 128 = .ok (.iinc 3 1, 3) := by decide +kernel
theorem d_Mo_needBody_131 : decode c_Mo_needBody 131 = .ok (.goto (-28), 3) := by decide +kernel
theorem d_Mo_needBody_134 : decode c_Mo_needBody 134 = .ok (.aload_n 0, 1) := by decide +kernel
theorem d_Mo_needBody_135 : decode c_Mo_needBody 135 = .ok (.aload_n 0, 1) := by decide +kernel
theorem d_Mo_needBody_136 : decode c_Mo_needBody 136 = .ok (.iload_n 1, 1) := by decide +kernel
theorem d_Mo_needBody_137 : decode c_Mo_needBody 137 = .ok (.aload_n 0, 1) := by decide +kernel
theorem d_Mo_needBody_138 : decode c_Mo_needBody 138 = .ok (.getfield 9, 3) := by decide +kernel
theorem d_Mo_needBody_141 : decode c_Mo_needBody 141 = .ok (.iload_n 1, 1) := by decide +kernel
theorem d_Mo_needBody_142 : decode c_Mo_needBody 142 = .ok (.iaload, 1) := by decide +kernel
theorem d_Mo_needBody_143 : decode c_Mo_needBody 143 = .ok (.invokevirtual 263, 3) := by decide +kernel
theorem d_Mo_needBody_146 : decode c_Mo_needBody 146 = .ok (.iload_n 2, 1) := by decide +kernel
theorem d_Mo_needBody_147 : decode c_Mo_needBody 147 = .ok (.bipush 19, 2) := by decide +kernel
theorem d_Mo_needBody_149 : decode c_Mo_needBody 149 = .ok (.invokestatic 211, 3) := by decide +kernel
theorem d_Mo_needBody_152 : decode c_Mo_needBody 152 = .ok (.invokevirtual 266, 3) := by decide +kernel
theorem d_Mo_needBody_155 : decode c_Mo_needBody 155 = .ok (.return_, 1) := by decide +kernel
set_option maxRecDepth 100000 in
set_option maxHeartbeats 16000000 in
/-- needBody(f9) -/
theorem g_Mo_needBody (l : Launch) (G : va_G) (k : Nat → ClassId) (h0 : Nat) (s0 : Nat) (f9 : Nat) (q9 : Nat) (nf : Nat) (un : Nat) (co9 : Nat) (fl : Nat) (ma : Nat → Nat) (iv : Nat → Int32) (co : Int64) (tk : Nat → Nat) (fs : Nat → Nat) (En : Nat → Nat) (wd : Nat → Int32) (L : Nat → Int64) (sm : Nat → Int64) (NB : Nat → Nat) (NA : Nat → Nat) (NK : Nat → Nat) (NP : Nat → Nat) (NQ : Nat → Nat) (hfn : f9 < nf) (hnf : nf ≤ 4) (htk : ∀ g, g < 4 → tk g ≤ 3) (hw : wf (wdF wd f9) tk nf (enF En f9) 16 (tk f9) 0 q9) (hq : q9 ≤ 200) (hnd : nd (wdF wd f9) (enF En f9) 16 0 ≤ 40) (hfs : ∀ g, g < nf → fs g + tk g + 2 < 40) (hflo : flO un co9 fl) (hsm : smO co9 sm) (hun : un ≤ 5000) (hco : co9 ≤ 7000) : CV l y_Mo_needBody c_Mo_needBody 4 { frames := 5, cells := 0, slots := 0, locals := 135 } [.ref h0, .int (nI f9)] G k s0 [(h0, .inr (8, moL ma (va_up (va_up (va_up iv 14 (nI un)) 15 (nI co9)) 16 (nI fl)) co)), ((ma 0), .inl (k 0, 4, .inl (fun i => nI (tk i)))), ((ma 1), .inl (k 0, 800, .inl wd)), ((ma 3), .inl (k 0, 800, .inl (fun i => nI (En i)))), ((ma 14), .inl (k 0, 4, .inl (fun i => nI (fs i)))), ((ma 13), .inl (k 1, 36982, .inr (.inl L))), ((ma 15), .inl (k 1, 3690, .inr (.inl sm))), ((ma 16), .inl (k 0, 20, .inl (fun i => nI (NB i)))), ((ma 17), .inl (k 0, 20, .inl (fun i => nI (NA i)))), ((ma 18), .inl (k 0, 20, .inl (fun i => nI (NK i)))), ((ma 19), .inl (k 0, 20, .inl (fun i => nI (NP i)))), ((ma 20), .inl (k 0, 20, .inl (fun i => nI (NQ i))))] (fun (u : (Nat → Int64) × (Nat → Int64) × Nat × (Nat → Nat → Nat) × Nat) => flO (un + ucT (wdF wd f9) tk (enF En f9) 16 (tk f9) 0) (co9 + (ccT (wdF wd f9) tk (enF En f9) 16 (tk f9) 0 + tk f9 + 1)) u.2.2.1 ∧ smO (co9 + (ccT (wdF wd f9) tk (enF En f9) 16 (tk f9) 0 + tk f9 + 1)) u.2.1) (fun u => [(h0, .inr (8, moL ma (va_up (va_up (va_up (va_up (va_up (va_up iv 14 (nI (un + ucT (wdF wd f9) tk (enF En f9) 16 (tk f9) 0))) 15 (nI (co9 + (ccT (wdF wd f9) tk (enF En f9) 16 (tk f9) 0 + tk f9 + 1)))) 16 (nI u.2.2.1)) 13 (nI u.2.2.2.2)) 17 0) 18 0) co)), ((ma 0), .inl (k 0, 4, .inl (fun i => nI (tk i)))), ((ma 1), .inl (k 0, 800, .inl wd)), ((ma 3), .inl (k 0, 800, .inl (fun i => nI (En i)))), ((ma 14), .inl (k 0, 4, .inl (fun i => nI (fs i)))), ((ma 13), .inl (k 1, 36982, .inr (.inl u.1))), ((ma 15), .inl (k 1, 3690, .inr (.inl u.2.1))), ((ma 16), .inl (k 0, 20, .inl (fun i => nI (u.2.2.2.1 0 i)))), ((ma 17), .inl (k 0, 20, .inl (fun i => nI (u.2.2.2.1 1 i)))), ((ma 18), .inl (k 0, 20, .inl (fun i => nI (u.2.2.2.1 2 i)))), ((ma 19), .inl (k 0, 20, .inl (fun i => nI (u.2.2.2.1 3 i)))), ((ma 20), .inl (k 0, 20, .inl (fun i => nI (u.2.2.2.1 4 i))))]) 0 0 := by
  refine met_start (by decide) (Nat.le_of_ble_eq_true rfl) ?_
  intro p e s m below meth c C K hA hsz S ls hl
  generalize va_A [(h0, .inr (8, moL ma (va_up (va_up (va_up iv 14 (nI un)) 15 (nI co9)) 16 (nI fl)) co)), ((ma 0), .inl (k 0, 4, .inl (fun i => nI (tk i)))), ((ma 1), .inl (k 0, 800, .inl wd)), ((ma 3), .inl (k 0, 800, .inl (fun i => nI (En i)))), ((ma 14), .inl (k 0, 4, .inl (fun i => nI (fs i)))), ((ma 13), .inl (k 1, 36982, .inr (.inl L))), ((ma 15), .inl (k 1, 3690, .inr (.inl sm))), ((ma 16), .inl (k 0, 20, .inl (fun i => nI (NB i)))), ((ma 17), .inl (k 0, 20, .inl (fun i => nI (NA i)))), ((ma 18), .inl (k 0, 20, .inl (fun i => nI (NK i)))), ((ma 19), .inl (k 0, 20, .inl (fun i => nI (NP i)))), ((ma 20), .inl (k 0, 20, .inl (fun i => nI (NQ i))))] s0 = A at hA S ⊢
  have hx := C.1
  have hb := C.2.1
  have hl : lv_has ls 4 [(0, .ref h0), (1, .int (nI f9))] := hl
  have hf : f9 < 4 := by omega
  have htf := htk f9 hf
  have hff := hfs f9 hfn
  have ndp := nd_pos hw
  refine lv_aload_n hx hb d_Mo_needBody_0 rfl (lv_at hl 0 rfl) ?_
  refine lv_iconst (v := 0) hx hb d_Mo_needBody_1 (by decide) ?_
  refine r_put C K S 0 rfl rfl clOk_Mo 28 (by decide) wf_Mo_208 rfl (ty := .int) (v := .int 0) (by decide +kernel) rfl rfl (Nat.le_of_ble_eq_true rfl) (fs' := moL ma (va_up (va_up (va_up (va_up iv 14 (nI un)) 15 (nI co9)) 16 (nI fl)) 13 0) co) (ws' := [(h0, .inr (8, moL ma (va_up (va_up (va_up (va_up iv 14 (nI un)) 15 (nI co9)) 16 (nI fl)) 13 0) co)), ((ma 0), .inl (k 0, 4, .inl (fun i => nI (tk i)))), ((ma 1), .inl (k 0, 800, .inl wd)), ((ma 3), .inl (k 0, 800, .inl (fun i => nI (En i)))), ((ma 14), .inl (k 0, 4, .inl (fun i => nI (fs i)))), ((ma 13), .inl (k 1, 36982, .inr (.inl L))), ((ma 15), .inl (k 1, 3690, .inr (.inl sm))), ((ma 16), .inl (k 0, 20, .inl (fun i => nI (NB i)))), ((ma 17), .inl (k 0, 20, .inl (fun i => nI (NA i)))), ((ma 18), .inl (k 0, 20, .inl (fun i => nI (NK i)))), ((ma 19), .inl (k 0, 20, .inl (fun i => nI (NP i)))), ((ma 20), .inl (k 0, 20, .inl (fun i => nI (NQ i))))]) rfl rfl d_Mo_needBody_2 (fun H locs S => ?_)
  refine lv_aload_n hx hb d_Mo_needBody_5 rfl (lv_at hl 0 rfl) ?_
  refine lv_bipush (v := 40) hx hb d_Mo_needBody_6 (by decide) ?_
  refine lv_bipush (v := 20) hx hb d_Mo_needBody_8 (by decide) ?_
  refine r_backi (wi := []) (wr := [(h0, .inr (8, moL ma (va_up (va_up (va_up (va_up iv 14 (nI un)) 15 (nI co9)) 16 (nI fl)) 13 0) co)), ((ma 0), .inl (k 0, 4, .inl (fun i => nI (tk i)))), ((ma 1), .inl (k 0, 800, .inl wd)), ((ma 3), .inl (k 0, 800, .inl (fun i => nI (En i)))), ((ma 14), .inl (k 0, 4, .inl (fun i => nI (fs i)))), ((ma 13), .inl (k 1, 36982, .inr (.inl L))), ((ma 15), .inl (k 1, 3690, .inr (.inl sm))), ((ma 16), .inl (k 0, 20, .inl (fun i => nI (NB i)))), ((ma 17), .inl (k 0, 20, .inl (fun i => nI (NA i)))), ((ma 18), .inl (k 0, 20, .inl (fun i => nI (NK i)))), ((ma 19), .inl (k 0, 20, .inl (fun i => nI (NP i)))), ((ma 20), .inl (k 0, 20, .inl (fun i => nI (NQ i))))]) S hA [] [0, 1, 2, 3, 4, 5, 6, 7, 8, 9, 10, 11] rfl rfl (by decide) (by decide) (va_runS (As := [.int 40, .int 20]) (rest := [.ref h0]) ⟨hx, hb, C.2.2.1, C.2.2.2.1, C.2.2.2.2.1⟩ (g_Mo_line l G k _ 40 20) (k_stat (n := 2) C wc_Mo_line rfl rfl wz_Mo wm_Mo_211 wt_Mo_line (by decide +kernel) ⟨(Nat.le_of_ble_eq_true rfl), (Nat.le_of_ble_eq_true rfl)⟩) (pr_now K S [] (by decide) rfl) rfl rfl hl.1 rfl (lv_room (Nat.le_of_ble_eq_true rfl)) d_Mo_needBody_10 ⟨(Nat.le_of_ble_eq_true rfl), (Nat.le_of_ble_eq_true rfl)⟩) (fun r3 u1 H locs hw2 S => ?_)
  have S : Sw G A s.heap _ _ [(h0, .inr (8, moL ma (va_up (va_up (va_up (va_up iv 14 (nI un)) 15 (nI co9)) 16 (nI fl)) 13 0) co)), ((ma 0), .inl (k 0, 4, .inl (fun i => nI (tk i)))), ((ma 1), .inl (k 0, 800, .inl wd)), ((ma 3), .inl (k 0, 800, .inl (fun i => nI (En i)))), ((ma 14), .inl (k 0, 4, .inl (fun i => nI (fs i)))), ((ma 13), .inl (k 1, 36982, .inr (.inl L))), ((ma 15), .inl (k 1, 3690, .inr (.inl sm))), ((ma 16), .inl (k 0, 20, .inl (fun i => nI (NB i)))), ((ma 17), .inl (k 0, 20, .inl (fun i => nI (NA i)))), ((ma 18), .inl (k 0, 20, .inl (fun i => nI (NK i)))), ((ma 19), .inl (k 0, 20, .inl (fun i => nI (NP i)))), ((ma 20), .inl (k 0, 20, .inl (fun i => nI (NQ i))))] := S
  obtain rfl : r3 = nI ((22 * 40 + 20) * 41) := hw2
  refine r_backv (wi := [(h0, .inr (8, moL ma (va_up (va_up (va_up (va_up iv 14 (nI un)) 15 (nI co9)) 16 (nI fl)) 13 0) co)), ((ma 13), .inl (k 1, 36982, .inr (.inl L)))]) (wr := [((ma 0), .inl (k 0, 4, .inl (fun i => nI (tk i)))), ((ma 1), .inl (k 0, 800, .inl wd)), ((ma 3), .inl (k 0, 800, .inl (fun i => nI (En i)))), ((ma 14), .inl (k 0, 4, .inl (fun i => nI (fs i)))), ((ma 15), .inl (k 1, 3690, .inr (.inl sm))), ((ma 16), .inl (k 0, 20, .inl (fun i => nI (NB i)))), ((ma 17), .inl (k 0, 20, .inl (fun i => nI (NA i)))), ((ma 18), .inl (k 0, 20, .inl (fun i => nI (NK i)))), ((ma 19), .inl (k 0, 20, .inl (fun i => nI (NP i)))), ((ma 20), .inl (k 0, 20, .inl (fun i => nI (NQ i))))]) S hA [0, 5] [1, 2, 3, 4, 6, 7, 8, 9, 10, 11] rfl rfl (by decide) (by decide) (va_runV (As := [.int (nI ((22 * 40 + 20) * 41))]) (rest := []) ⟨hx, hb, C.2.2.1, C.2.2.2.1, C.2.2.2.2.1⟩ (g_Mo_clear l G k h0 _ ma (va_up (va_up (va_up (va_up iv 14 (nI un)) 15 (nI co9)) 16 (nI fl)) 13 0) co L ((22 * 40 + 20) * 41) (by omega)) (k_virt (n := 1) C wc_Mo_clear rfl rfl wz_Mo wm_Mo_214 wn_Mo_clear ws_Mo_clear (by decide +kernel) ⟨(Nat.le_of_ble_eq_true rfl), (Nat.le_of_ble_eq_true rfl)⟩) (pr_nowV K S [0, 5] (by decide) rfl 0 rfl rfl) rfl rfl hl.1 rfl (lv_room (Nat.le_of_ble_eq_true rfl)) d_Mo_needBody_13 ⟨(Nat.le_of_ble_eq_true rfl), (Nat.le_of_ble_eq_true rfl)⟩) (fun u5 H locs hw6 S => ?_)
  have S : Sw G A s.heap _ _ [((ma 0), .inl (k 0, 4, .inl (fun i => nI (tk i)))), ((ma 1), .inl (k 0, 800, .inl wd)), ((ma 3), .inl (k 0, 800, .inl (fun i => nI (En i)))), ((ma 14), .inl (k 0, 4, .inl (fun i => nI (fs i)))), ((ma 15), .inl (k 1, 3690, .inr (.inl sm))), ((ma 16), .inl (k 0, 20, .inl (fun i => nI (NB i)))), ((ma 17), .inl (k 0, 20, .inl (fun i => nI (NA i)))), ((ma 18), .inl (k 0, 20, .inl (fun i => nI (NK i)))), ((ma 19), .inl (k 0, 20, .inl (fun i => nI (NP i)))), ((ma 20), .inl (k 0, 20, .inl (fun i => nI (NQ i)))), (h0, .inr (8, moL ma (va_up (va_up (va_up (va_up iv 14 (nI un)) 15 (nI co9)) 16 (nI fl)) 13 0) co)), ((ma 13), .inl (k 1, 36982, .inr (.inl (lnC L ((22 * 40 + 20) * 41) 41))))] := S
  obtain ⟨La, he_La⟩ : ∃ x9 : Nat → Int64, x9 = (lnC L ((22 * 40 + 20) * 41) 41) := ⟨_, rfl⟩
  have a1 : lz La (22 * 40 + 20) = 0 := by rw [he_La]; exact lz_C
  have S : Sw G A s.heap H locs [((ma 0), .inl (k 0, 4, .inl (fun i => nI (tk i)))), ((ma 1), .inl (k 0, 800, .inl wd)), ((ma 3), .inl (k 0, 800, .inl (fun i => nI (En i)))), ((ma 14), .inl (k 0, 4, .inl (fun i => nI (fs i)))), ((ma 15), .inl (k 1, 3690, .inr (.inl sm))), ((ma 16), .inl (k 0, 20, .inl (fun i => nI (NB i)))), ((ma 17), .inl (k 0, 20, .inl (fun i => nI (NA i)))), ((ma 18), .inl (k 0, 20, .inl (fun i => nI (NK i)))), ((ma 19), .inl (k 0, 20, .inl (fun i => nI (NP i)))), ((ma 20), .inl (k 0, 20, .inl (fun i => nI (NQ i)))), (h0, .inr (8, moL ma (va_up (va_up (va_up (va_up iv 14 (nI un)) 15 (nI co9)) 16 (nI fl)) 13 0) co)), ((ma 13), .inl (k 1, 36982, .inr (.inl La)))] := by rw [he_La]; exact S
  refine lv_aload_n hx hb d_Mo_needBody_16 rfl (lv_at hl 0 rfl) ?_
  refine lv_bipush (v := 40) hx hb d_Mo_needBody_17 (by decide) ?_
  refine lv_bipush (v := 21) hx hb d_Mo_needBody_19 (by decide) ?_
  refine r_backi (wi := []) (wr := [((ma 0), .inl (k 0, 4, .inl (fun i => nI (tk i)))), ((ma 1), .inl (k 0, 800, .inl wd)), ((ma 3), .inl (k 0, 800, .inl (fun i => nI (En i)))), ((ma 14), .inl (k 0, 4, .inl (fun i => nI (fs i)))), ((ma 15), .inl (k 1, 3690, .inr (.inl sm))), ((ma 16), .inl (k 0, 20, .inl (fun i => nI (NB i)))), ((ma 17), .inl (k 0, 20, .inl (fun i => nI (NA i)))), ((ma 18), .inl (k 0, 20, .inl (fun i => nI (NK i)))), ((ma 19), .inl (k 0, 20, .inl (fun i => nI (NP i)))), ((ma 20), .inl (k 0, 20, .inl (fun i => nI (NQ i)))), (h0, .inr (8, moL ma (va_up (va_up (va_up (va_up iv 14 (nI un)) 15 (nI co9)) 16 (nI fl)) 13 0) co)), ((ma 13), .inl (k 1, 36982, .inr (.inl La)))]) S hA [] [0, 1, 2, 3, 4, 5, 6, 7, 8, 9, 10, 11] rfl rfl (by decide) (by decide) (va_runS (As := [.int 40, .int 21]) (rest := [.ref h0]) ⟨hx, hb, C.2.2.1, C.2.2.2.1, C.2.2.2.2.1⟩ (g_Mo_line l G k _ 40 21) (k_stat (n := 2) C wc_Mo_line rfl rfl wz_Mo wm_Mo_211 wt_Mo_line (by decide +kernel) ⟨(Nat.le_of_ble_eq_true rfl), (Nat.le_of_ble_eq_true rfl)⟩) (pr_now K S [] (by decide) rfl) rfl rfl hl.1 rfl (lv_room (Nat.le_of_ble_eq_true rfl)) d_Mo_needBody_21 ⟨(Nat.le_of_ble_eq_true rfl), (Nat.le_of_ble_eq_true rfl)⟩) (fun r9 u7 H locs hw8 S => ?_)
  have S : Sw G A s.heap _ _ [((ma 0), .inl (k 0, 4, .inl (fun i => nI (tk i)))), ((ma 1), .inl (k 0, 800, .inl wd)), ((ma 3), .inl (k 0, 800, .inl (fun i => nI (En i)))), ((ma 14), .inl (k 0, 4, .inl (fun i => nI (fs i)))), ((ma 15), .inl (k 1, 3690, .inr (.inl sm))), ((ma 16), .inl (k 0, 20, .inl (fun i => nI (NB i)))), ((ma 17), .inl (k 0, 20, .inl (fun i => nI (NA i)))), ((ma 18), .inl (k 0, 20, .inl (fun i => nI (NK i)))), ((ma 19), .inl (k 0, 20, .inl (fun i => nI (NP i)))), ((ma 20), .inl (k 0, 20, .inl (fun i => nI (NQ i)))), (h0, .inr (8, moL ma (va_up (va_up (va_up (va_up iv 14 (nI un)) 15 (nI co9)) 16 (nI fl)) 13 0) co)), ((ma 13), .inl (k 1, 36982, .inr (.inl La)))] := S
  obtain rfl : r9 = nI ((22 * 40 + 21) * 41) := hw8
  refine r_backv (wi := [(h0, .inr (8, moL ma (va_up (va_up (va_up (va_up iv 14 (nI un)) 15 (nI co9)) 16 (nI fl)) 13 0) co)), ((ma 13), .inl (k 1, 36982, .inr (.inl La)))]) (wr := [((ma 0), .inl (k 0, 4, .inl (fun i => nI (tk i)))), ((ma 1), .inl (k 0, 800, .inl wd)), ((ma 3), .inl (k 0, 800, .inl (fun i => nI (En i)))), ((ma 14), .inl (k 0, 4, .inl (fun i => nI (fs i)))), ((ma 15), .inl (k 1, 3690, .inr (.inl sm))), ((ma 16), .inl (k 0, 20, .inl (fun i => nI (NB i)))), ((ma 17), .inl (k 0, 20, .inl (fun i => nI (NA i)))), ((ma 18), .inl (k 0, 20, .inl (fun i => nI (NK i)))), ((ma 19), .inl (k 0, 20, .inl (fun i => nI (NP i)))), ((ma 20), .inl (k 0, 20, .inl (fun i => nI (NQ i))))]) S hA [10, 11] [0, 1, 2, 3, 4, 5, 6, 7, 8, 9] rfl rfl (by decide) (by decide) (va_runV (As := [.int (nI ((22 * 40 + 21) * 41))]) (rest := []) ⟨hx, hb, C.2.2.1, C.2.2.2.1, C.2.2.2.2.1⟩ (g_Mo_clear l G k h0 _ ma (va_up (va_up (va_up (va_up iv 14 (nI un)) 15 (nI co9)) 16 (nI fl)) 13 0) co La ((22 * 40 + 21) * 41) (by omega)) (k_virt (n := 1) C wc_Mo_clear rfl rfl wz_Mo wm_Mo_214 wn_Mo_clear ws_Mo_clear (by decide +kernel) ⟨(Nat.le_of_ble_eq_true rfl), (Nat.le_of_ble_eq_true rfl)⟩) (pr_nowV K S [10, 11] (by decide) rfl 10 rfl rfl) rfl rfl hl.1 rfl (lv_room (Nat.le_of_ble_eq_true rfl)) d_Mo_needBody_24 ⟨(Nat.le_of_ble_eq_true rfl), (Nat.le_of_ble_eq_true rfl)⟩) (fun u11 H locs hw12 S => ?_)
  have S : Sw G A s.heap _ _ [((ma 0), .inl (k 0, 4, .inl (fun i => nI (tk i)))), ((ma 1), .inl (k 0, 800, .inl wd)), ((ma 3), .inl (k 0, 800, .inl (fun i => nI (En i)))), ((ma 14), .inl (k 0, 4, .inl (fun i => nI (fs i)))), ((ma 15), .inl (k 1, 3690, .inr (.inl sm))), ((ma 16), .inl (k 0, 20, .inl (fun i => nI (NB i)))), ((ma 17), .inl (k 0, 20, .inl (fun i => nI (NA i)))), ((ma 18), .inl (k 0, 20, .inl (fun i => nI (NK i)))), ((ma 19), .inl (k 0, 20, .inl (fun i => nI (NP i)))), ((ma 20), .inl (k 0, 20, .inl (fun i => nI (NQ i)))), (h0, .inr (8, moL ma (va_up (va_up (va_up (va_up iv 14 (nI un)) 15 (nI co9)) 16 (nI fl)) 13 0) co)), ((ma 13), .inl (k 1, 36982, .inr (.inl (lnC La ((22 * 40 + 21) * 41) 41))))] := S
  obtain ⟨Lb, he_Lb⟩ : ∃ x9 : Nat → Int64, x9 = (lnC La ((22 * 40 + 21) * 41) 41) := ⟨_, rfl⟩
  have b1 : lz Lb (22 * 40 + 20) = 0 := by rw [he_Lb]; rw [lz_C_ne (by decide)]; exact a1
  have b2 : lz Lb (22 * 40 + 21) = 0 := by rw [he_Lb]; exact lz_C
  have S : Sw G A s.heap H locs [((ma 0), .inl (k 0, 4, .inl (fun i => nI (tk i)))), ((ma 1), .inl (k 0, 800, .inl wd)), ((ma 3), .inl (k 0, 800, .inl (fun i => nI (En i)))), ((ma 14), .inl (k 0, 4, .inl (fun i => nI (fs i)))), ((ma 15), .inl (k 1, 3690, .inr (.inl sm))), ((ma 16), .inl (k 0, 20, .inl (fun i => nI (NB i)))), ((ma 17), .inl (k 0, 20, .inl (fun i => nI (NA i)))), ((ma 18), .inl (k 0, 20, .inl (fun i => nI (NK i)))), ((ma 19), .inl (k 0, 20, .inl (fun i => nI (NP i)))), ((ma 20), .inl (k 0, 20, .inl (fun i => nI (NQ i)))), (h0, .inr (8, moL ma (va_up (va_up (va_up (va_up iv 14 (nI un)) 15 (nI co9)) 16 (nI fl)) 13 0) co)), ((ma 13), .inl (k 1, 36982, .inr (.inl Lb)))] := by rw [he_Lb]; exact S
  refine lv_aload_n hx hb d_Mo_needBody_27 rfl (lv_at hl 0 rfl) ?_
  refine r_get C K S 10 rfl rfl clOk_Mo 27 (by decide) wf_Mo_57 (v := .ref (ma 13)) rfl d_Mo_needBody_28 ?_
  refine lv_bipush (v := 40) hx hb d_Mo_needBody_31 (by decide) ?_
  refine lv_bipush (v := 20) hx hb d_Mo_needBody_33 (by decide) ?_
  refine r_backi (wi := []) (wr := [((ma 0), .inl (k 0, 4, .inl (fun i => nI (tk i)))), ((ma 1), .inl (k 0, 800, .inl wd)), ((ma 3), .inl (k 0, 800, .inl (fun i => nI (En i)))), ((ma 14), .inl (k 0, 4, .inl (fun i => nI (fs i)))), ((ma 15), .inl (k 1, 3690, .inr (.inl sm))), ((ma 16), .inl (k 0, 20, .inl (fun i => nI (NB i)))), ((ma 17), .inl (k 0, 20, .inl (fun i => nI (NA i)))), ((ma 18), .inl (k 0, 20, .inl (fun i => nI (NK i)))), ((ma 19), .inl (k 0, 20, .inl (fun i => nI (NP i)))), ((ma 20), .inl (k 0, 20, .inl (fun i => nI (NQ i)))), (h0, .inr (8, moL ma (va_up (va_up (va_up (va_up iv 14 (nI un)) 15 (nI co9)) 16 (nI fl)) 13 0) co)), ((ma 13), .inl (k 1, 36982, .inr (.inl Lb)))]) S hA [] [0, 1, 2, 3, 4, 5, 6, 7, 8, 9, 10, 11] rfl rfl (by decide) (by decide) (va_runS (As := [.int 40, .int 20]) (rest := [.ref (ma 13)]) ⟨hx, hb, C.2.2.1, C.2.2.2.1, C.2.2.2.2.1⟩ (g_Mo_line l G k _ 40 20) (k_stat (n := 2) C wc_Mo_line rfl rfl wz_Mo wm_Mo_211 wt_Mo_line (by decide +kernel) ⟨(Nat.le_of_ble_eq_true rfl), (Nat.le_of_ble_eq_true rfl)⟩) (pr_now K S [] (by decide) rfl) rfl rfl hl.1 rfl (lv_room (Nat.le_of_ble_eq_true rfl)) d_Mo_needBody_35 ⟨(Nat.le_of_ble_eq_true rfl), (Nat.le_of_ble_eq_true rfl)⟩) (fun r15 u13 H locs hw14 S => ?_)
  have S : Sw G A s.heap _ _ [((ma 0), .inl (k 0, 4, .inl (fun i => nI (tk i)))), ((ma 1), .inl (k 0, 800, .inl wd)), ((ma 3), .inl (k 0, 800, .inl (fun i => nI (En i)))), ((ma 14), .inl (k 0, 4, .inl (fun i => nI (fs i)))), ((ma 15), .inl (k 1, 3690, .inr (.inl sm))), ((ma 16), .inl (k 0, 20, .inl (fun i => nI (NB i)))), ((ma 17), .inl (k 0, 20, .inl (fun i => nI (NA i)))), ((ma 18), .inl (k 0, 20, .inl (fun i => nI (NK i)))), ((ma 19), .inl (k 0, 20, .inl (fun i => nI (NP i)))), ((ma 20), .inl (k 0, 20, .inl (fun i => nI (NQ i)))), (h0, .inr (8, moL ma (va_up (va_up (va_up (va_up iv 14 (nI un)) 15 (nI co9)) 16 (nI fl)) 13 0) co)), ((ma 13), .inl (k 1, 36982, .inr (.inl Lb)))] := S
  obtain rfl : r15 = nI ((22 * 40 + 20) * 41) := hw14
  refine lv_aload_n hx hb d_Mo_needBody_38 rfl (lv_at hl 0 rfl) ?_
  refine lv_iload_n hx hb d_Mo_needBody_39 rfl (lv_at hl 1 rfl) ?_
  refine lv_aload_n hx hb d_Mo_needBody_40 rfl (lv_at hl 0 rfl) ?_
  refine r_get C K S 10 rfl rfl clOk_Mo 1 (by decide) wf_Mo_9 (v := .ref (ma 0)) rfl d_Mo_needBody_41 ?_
  refine lv_iload_n hx hb d_Mo_needBody_44 rfl (lv_at hl 1 rfl) ?_
  refine r_iald C K S 0 rfl (i := nI f9) (show vp_in (nI f9) _ from vp_in_nI (n := f9) (by omega) (by decide)) (v := nI (tk f9)) (by rw [nI_clamp (by omega)]) d_Mo_needBody_45 ?_
  refine lv_iconst (v := 1) hx hb d_Mo_needBody_46 (by decide) ?_
  refine z_iadd (x := nI (tk f9)) (y := 1) (v := nI (tk f9 + 1)) hx hb d_Mo_needBody_47 (nI_add (tk f9) 1) ?_
  refine r_backi (wi := [(h0, .inr (8, moL ma (va_up (va_up (va_up (va_up iv 14 (nI un)) 15 (nI co9)) 16 (nI fl)) 13 0) co)), ((ma 14), .inl (k 0, 4, .inl (fun i => nI (fs i))))]) (wr := [((ma 0), .inl (k 0, 4, .inl (fun i => nI (tk i)))), ((ma 1), .inl (k 0, 800, .inl wd)), ((ma 3), .inl (k 0, 800, .inl (fun i => nI (En i)))), ((ma 15), .inl (k 1, 3690, .inr (.inl sm))), ((ma 16), .inl (k 0, 20, .inl (fun i => nI (NB i)))), ((ma 17), .inl (k 0, 20, .inl (fun i => nI (NA i)))), ((ma 18), .inl (k 0, 20, .inl (fun i => nI (NK i)))), ((ma 19), .inl (k 0, 20, .inl (fun i => nI (NP i)))), ((ma 20), .inl (k 0, 20, .inl (fun i => nI (NQ i)))), ((ma 13), .inl (k 1, 36982, .inr (.inl Lb)))]) S hA [10, 3] [0, 1, 2, 4, 5, 6, 7, 8, 9, 11] rfl rfl (by decide) (by decide) (va_runV (As := [.int (nI f9), .int (nI (tk f9 + 1))]) (rest := [.int (nI ((22 * 40 + 20) * 41)), .ref (ma 13)]) ⟨hx, hb, C.2.2.1, C.2.2.2.1, C.2.2.2.2.1⟩ (g_Mo_unknown l G k h0 _ ma (va_up (va_up (va_up (va_up iv 14 (nI un)) 15 (nI co9)) 16 (nI fl)) 13 0) co fs f9 (tk f9 + 1) hf) (k_virt (n := 2) C wc_Mo_unknown rfl rfl wz_Mo wm_Mo_263 wn_Mo_unknown ws_Mo_unknown (by decide +kernel) ⟨(Nat.le_of_ble_eq_true rfl), (Nat.le_of_ble_eq_true rfl)⟩) (pr_nowV K S [10, 3] (by decide) rfl 10 rfl rfl) rfl rfl hl.1 rfl (lv_room (Nat.le_of_ble_eq_true rfl)) d_Mo_needBody_48 ⟨(Nat.le_of_ble_eq_true rfl), (Nat.le_of_ble_eq_true rfl)⟩) (fun r19 u17 H locs hw18 S => ?_)
  have S : Sw G A s.heap _ _ [((ma 0), .inl (k 0, 4, .inl (fun i => nI (tk i)))), ((ma 1), .inl (k 0, 800, .inl wd)), ((ma 3), .inl (k 0, 800, .inl (fun i => nI (En i)))), ((ma 15), .inl (k 1, 3690, .inr (.inl sm))), ((ma 16), .inl (k 0, 20, .inl (fun i => nI (NB i)))), ((ma 17), .inl (k 0, 20, .inl (fun i => nI (NA i)))), ((ma 18), .inl (k 0, 20, .inl (fun i => nI (NK i)))), ((ma 19), .inl (k 0, 20, .inl (fun i => nI (NP i)))), ((ma 20), .inl (k 0, 20, .inl (fun i => nI (NQ i)))), ((ma 13), .inl (k 1, 36982, .inr (.inl Lb))), (h0, .inr (8, moL ma (va_up (va_up (va_up (va_up iv 14 (nI un)) 15 (nI co9)) 16 (nI fl)) 13 0) co)), ((ma 14), .inl (k 0, 4, .inl (fun i => nI (fs i))))] := S
  obtain rfl : r19 = nI (fs f9 + (tk f9 + 1)) := hw18
  refine z_iadd (x := nI ((22 * 40 + 20) * 41)) (y := nI (fs f9 + (tk f9 + 1))) (v := nI ((22 * 40 + 20) * 41 + (fs f9 + (tk f9 + 1)))) hx hb d_Mo_needBody_51 (show _ = nI ((22 * 40 + 20) * 41 + (fs f9 + (tk f9 + 1))) from (nI_add ((22 * 40 + 20) * 41) (fs f9 + (tk f9 + 1))).trans (congrArg nI (by omega))) ?_
  refine lv_lconst (v := 1) hx hb d_Mo_needBody_52 (by decide) ?_
  refine r_last C K S 9 rfl (i := nI ((22 * 40 + 20) * 41 + (fs f9 + (tk f9 + 1)))) (x := 1) (show vp_in (nI ((22 * 40 + 20) * 41 + (fs f9 + (tk f9 + 1)))) _ from vp_in_nI (n := ((22 * 40 + 20) * 41 + (fs f9 + (tk f9 + 1)))) (by omega) (by decide)) (f' := va_up Lb ((22 * 40 + 20) * 41 + (fs f9 + (tk f9 + 1))) 1) (ws' := [((ma 0), .inl (k 0, 4, .inl (fun i => nI (tk i)))), ((ma 1), .inl (k 0, 800, .inl wd)), ((ma 3), .inl (k 0, 800, .inl (fun i => nI (En i)))), ((ma 15), .inl (k 1, 3690, .inr (.inl sm))), ((ma 16), .inl (k 0, 20, .inl (fun i => nI (NB i)))), ((ma 17), .inl (k 0, 20, .inl (fun i => nI (NA i)))), ((ma 18), .inl (k 0, 20, .inl (fun i => nI (NK i)))), ((ma 19), .inl (k 0, 20, .inl (fun i => nI (NP i)))), ((ma 20), .inl (k 0, 20, .inl (fun i => nI (NQ i)))), ((ma 13), .inl (k 1, 36982, .inr (.inl (va_up Lb ((22 * 40 + 20) * 41 + (fs f9 + (tk f9 + 1))) 1)))), (h0, .inr (8, moL ma (va_up (va_up (va_up (va_up iv 14 (nI un)) 15 (nI co9)) 16 (nI fl)) 13 0) co)), ((ma 14), .inl (k 0, 4, .inl (fun i => nI (fs i))))]) (show vp_updL _ (nI ((22 * 40 + 20) * 41 + (fs f9 + (tk f9 + 1))) : Int32).toNatClampNeg _ = _ from vp_updL_eq Lb (j := ((22 * 40 + 20) * 41 + (fs f9 + (tk f9 + 1)))) (by omega) 1) rfl d_Mo_needBody_53 (fun H locs S => ?_)
  obtain ⟨Lc, he_Lc⟩ : ∃ x9 : Nat → Int64, x9 = va_up Lb ((22 * 40 + 20) * 41 + (fs f9 + (tk f9 + 1))) 1 := ⟨_, rfl⟩
  have c1 : lz Lc (22 * 40 + 20) ≤ 1 := by rw [he_Lc]; exact m_one b1 (by omega)
  have c2 : lz Lc (22 * 40 + 21) = 0 := by rw [he_Lc]; rw [lz_up_ne (by omega) (by decide)]; exact b2
  have S : Sw G A s.heap H locs [((ma 0), .inl (k 0, 4, .inl (fun i => nI (tk i)))), ((ma 1), .inl (k 0, 800, .inl wd)), ((ma 3), .inl (k 0, 800, .inl (fun i => nI (En i)))), ((ma 15), .inl (k 1, 3690, .inr (.inl sm))), ((ma 16), .inl (k 0, 20, .inl (fun i => nI (NB i)))), ((ma 17), .inl (k 0, 20, .inl (fun i => nI (NA i)))), ((ma 18), .inl (k 0, 20, .inl (fun i => nI (NK i)))), ((ma 19), .inl (k 0, 20, .inl (fun i => nI (NP i)))), ((ma 20), .inl (k 0, 20, .inl (fun i => nI (NQ i)))), ((ma 13), .inl (k 1, 36982, .inr (.inl Lc))), (h0, .inr (8, moL ma (va_up (va_up (va_up (va_up iv 14 (nI un)) 15 (nI co9)) 16 (nI fl)) 13 0) co)), ((ma 14), .inl (k 0, 4, .inl (fun i => nI (fs i))))] := by rw [he_Lc]; exact S
  refine lv_aload_n hx hb d_Mo_needBody_54 rfl (lv_at hl 0 rfl) ?_
  refine r_get C K S 10 rfl rfl clOk_Mo 27 (by decide) wf_Mo_57 (v := .ref (ma 13)) rfl d_Mo_needBody_55 ?_
  refine lv_bipush (v := 40) hx hb d_Mo_needBody_58 (by decide) ?_
  refine lv_bipush (v := 21) hx hb d_Mo_needBody_60 (by decide) ?_
  refine r_backi (wi := []) (wr := [((ma 0), .inl (k 0, 4, .inl (fun i => nI (tk i)))), ((ma 1), .inl (k 0, 800, .inl wd)), ((ma 3), .inl (k 0, 800, .inl (fun i => nI (En i)))), ((ma 15), .inl (k 1, 3690, .inr (.inl sm))), ((ma 16), .inl (k 0, 20, .inl (fun i => nI (NB i)))), ((ma 17), .inl (k 0, 20, .inl (fun i => nI (NA i)))), ((ma 18), .inl (k 0, 20, .inl (fun i => nI (NK i)))), ((ma 19), .inl (k 0, 20, .inl (fun i => nI (NP i)))), ((ma 20), .inl (k 0, 20, .inl (fun i => nI (NQ i)))), ((ma 13), .inl (k 1, 36982, .inr (.inl Lc))), (h0, .inr (8, moL ma (va_up (va_up (va_up (va_up iv 14 (nI un)) 15 (nI co9)) 16 (nI fl)) 13 0) co)), ((ma 14), .inl (k 0, 4, .inl (fun i => nI (fs i))))]) S hA [] [0, 1, 2, 3, 4, 5, 6, 7, 8, 9, 10, 11] rfl rfl (by decide) (by decide) (va_runS (As := [.int 40, .int 21]) (rest := [.ref (ma 13)]) ⟨hx, hb, C.2.2.1, C.2.2.2.1, C.2.2.2.2.1⟩ (g_Mo_line l G k _ 40 21) (k_stat (n := 2) C wc_Mo_line rfl rfl wz_Mo wm_Mo_211 wt_Mo_line (by decide +kernel) ⟨(Nat.le_of_ble_eq_true rfl), (Nat.le_of_ble_eq_true rfl)⟩) (pr_now K S [] (by decide) rfl) rfl rfl hl.1 rfl (lv_room (Nat.le_of_ble_eq_true rfl)) d_Mo_needBody_62 ⟨(Nat.le_of_ble_eq_true rfl), (Nat.le_of_ble_eq_true rfl)⟩) (fun r23 u21 H locs hw22 S => ?_)
  have S : Sw G A s.heap _ _ [((ma 0), .inl (k 0, 4, .inl (fun i => nI (tk i)))), ((ma 1), .inl (k 0, 800, .inl wd)), ((ma 3), .inl (k 0, 800, .inl (fun i => nI (En i)))), ((ma 15), .inl (k 1, 3690, .inr (.inl sm))), ((ma 16), .inl (k 0, 20, .inl (fun i => nI (NB i)))), ((ma 17), .inl (k 0, 20, .inl (fun i => nI (NA i)))), ((ma 18), .inl (k 0, 20, .inl (fun i => nI (NK i)))), ((ma 19), .inl (k 0, 20, .inl (fun i => nI (NP i)))), ((ma 20), .inl (k 0, 20, .inl (fun i => nI (NQ i)))), ((ma 13), .inl (k 1, 36982, .inr (.inl Lc))), (h0, .inr (8, moL ma (va_up (va_up (va_up (va_up iv 14 (nI un)) 15 (nI co9)) 16 (nI fl)) 13 0) co)), ((ma 14), .inl (k 0, 4, .inl (fun i => nI (fs i))))] := S
  obtain rfl : r23 = nI ((22 * 40 + 21) * 41) := hw22
  refine lv_aload_n hx hb d_Mo_needBody_65 rfl (lv_at hl 0 rfl) ?_
  refine lv_iload_n hx hb d_Mo_needBody_66 rfl (lv_at hl 1 rfl) ?_
  refine lv_aload_n hx hb d_Mo_needBody_67 rfl (lv_at hl 0 rfl) ?_
  refine r_get C K S 10 rfl rfl clOk_Mo 1 (by decide) wf_Mo_9 (v := .ref (ma 0)) rfl d_Mo_needBody_68 ?_
  refine lv_iload_n hx hb d_Mo_needBody_71 rfl (lv_at hl 1 rfl) ?_
  refine r_iald C K S 0 rfl (i := nI f9) (show vp_in (nI f9) _ from vp_in_nI (n := f9) (by omega) (by decide)) (v := nI (tk f9)) (by rw [nI_clamp (by omega)]) d_Mo_needBody_72 ?_
  refine lv_iconst (v := 2) hx hb d_Mo_needBody_73 (by decide) ?_
  refine z_iadd (x := nI (tk f9)) (y := 2) (v := nI (tk f9 + 2)) hx hb d_Mo_needBody_74 (nI_add (tk f9) 2) ?_
  refine r_backi (wi := [(h0, .inr (8, moL ma (va_up (va_up (va_up (va_up iv 14 (nI un)) 15 (nI co9)) 16 (nI fl)) 13 0) co)), ((ma 14), .inl (k 0, 4, .inl (fun i => nI (fs i))))]) (wr := [((ma 0), .inl (k 0, 4, .inl (fun i => nI (tk i)))), ((ma 1), .inl (k 0, 800, .inl wd)), ((ma 3), .inl (k 0, 800, .inl (fun i => nI (En i)))), ((ma 15), .inl (k 1, 3690, .inr (.inl sm))), ((ma 16), .inl (k 0, 20, .inl (fun i => nI (NB i)))), ((ma 17), .inl (k 0, 20, .inl (fun i => nI (NA i)))), ((ma 18), .inl (k 0, 20, .inl (fun i => nI (NK i)))), ((ma 19), .inl (k 0, 20, .inl (fun i => nI (NP i)))), ((ma 20), .inl (k 0, 20, .inl (fun i => nI (NQ i)))), ((ma 13), .inl (k 1, 36982, .inr (.inl Lc)))]) S hA [10, 11] [0, 1, 2, 3, 4, 5, 6, 7, 8, 9] rfl rfl (by decide) (by decide) (va_runV (As := [.int (nI f9), .int (nI (tk f9 + 2))]) (rest := [.int (nI ((22 * 40 + 21) * 41)), .ref (ma 13)]) ⟨hx, hb, C.2.2.1, C.2.2.2.1, C.2.2.2.2.1⟩ (g_Mo_unknown l G k h0 _ ma (va_up (va_up (va_up (va_up iv 14 (nI un)) 15 (nI co9)) 16 (nI fl)) 13 0) co fs f9 (tk f9 + 2) hf) (k_virt (n := 2) C wc_Mo_unknown rfl rfl wz_Mo wm_Mo_263 wn_Mo_unknown ws_Mo_unknown (by decide +kernel) ⟨(Nat.le_of_ble_eq_true rfl), (Nat.le_of_ble_eq_true rfl)⟩) (pr_nowV K S [10, 11] (by decide) rfl 10 rfl rfl) rfl rfl hl.1 rfl (lv_room (Nat.le_of_ble_eq_true rfl)) d_Mo_needBody_75 ⟨(Nat.le_of_ble_eq_true rfl), (Nat.le_of_ble_eq_true rfl)⟩) (fun r27 u25 H locs hw26 S => ?_)
  have S : Sw G A s.heap _ _ [((ma 0), .inl (k 0, 4, .inl (fun i => nI (tk i)))), ((ma 1), .inl (k 0, 800, .inl wd)), ((ma 3), .inl (k 0, 800, .inl (fun i => nI (En i)))), ((ma 15), .inl (k 1, 3690, .inr (.inl sm))), ((ma 16), .inl (k 0, 20, .inl (fun i => nI (NB i)))), ((ma 17), .inl (k 0, 20, .inl (fun i => nI (NA i)))), ((ma 18), .inl (k 0, 20, .inl (fun i => nI (NK i)))), ((ma 19), .inl (k 0, 20, .inl (fun i => nI (NP i)))), ((ma 20), .inl (k 0, 20, .inl (fun i => nI (NQ i)))), ((ma 13), .inl (k 1, 36982, .inr (.inl Lc))), (h0, .inr (8, moL ma (va_up (va_up (va_up (va_up iv 14 (nI un)) 15 (nI co9)) 16 (nI fl)) 13 0) co)), ((ma 14), .inl (k 0, 4, .inl (fun i => nI (fs i))))] := S
  obtain rfl : r27 = nI (fs f9 + (tk f9 + 2)) := hw26
  refine z_iadd (x := nI ((22 * 40 + 21) * 41)) (y := nI (fs f9 + (tk f9 + 2))) (v := nI ((22 * 40 + 21) * 41 + (fs f9 + (tk f9 + 2)))) hx hb d_Mo_needBody_78 (show _ = nI ((22 * 40 + 21) * 41 + (fs f9 + (tk f9 + 2))) from (nI_add ((22 * 40 + 21) * 41) (fs f9 + (tk f9 + 2))).trans (congrArg nI (by omega))) ?_
  refine lv_lconst (v := 1) hx hb d_Mo_needBody_79 (by decide) ?_
  refine r_last C K S 9 rfl (i := nI ((22 * 40 + 21) * 41 + (fs f9 + (tk f9 + 2)))) (x := 1) (show vp_in (nI ((22 * 40 + 21) * 41 + (fs f9 + (tk f9 + 2)))) _ from vp_in_nI (n := ((22 * 40 + 21) * 41 + (fs f9 + (tk f9 + 2)))) (by omega) (by decide)) (f' := va_up Lc ((22 * 40 + 21) * 41 + (fs f9 + (tk f9 + 2))) 1) (ws' := [((ma 0), .inl (k 0, 4, .inl (fun i => nI (tk i)))), ((ma 1), .inl (k 0, 800, .inl wd)), ((ma 3), .inl (k 0, 800, .inl (fun i => nI (En i)))), ((ma 15), .inl (k 1, 3690, .inr (.inl sm))), ((ma 16), .inl (k 0, 20, .inl (fun i => nI (NB i)))), ((ma 17), .inl (k 0, 20, .inl (fun i => nI (NA i)))), ((ma 18), .inl (k 0, 20, .inl (fun i => nI (NK i)))), ((ma 19), .inl (k 0, 20, .inl (fun i => nI (NP i)))), ((ma 20), .inl (k 0, 20, .inl (fun i => nI (NQ i)))), ((ma 13), .inl (k 1, 36982, .inr (.inl (va_up Lc ((22 * 40 + 21) * 41 + (fs f9 + (tk f9 + 2))) 1)))), (h0, .inr (8, moL ma (va_up (va_up (va_up (va_up iv 14 (nI un)) 15 (nI co9)) 16 (nI fl)) 13 0) co)), ((ma 14), .inl (k 0, 4, .inl (fun i => nI (fs i))))]) (show vp_updL _ (nI ((22 * 40 + 21) * 41 + (fs f9 + (tk f9 + 2))) : Int32).toNatClampNeg _ = _ from vp_updL_eq Lc (j := ((22 * 40 + 21) * 41 + (fs f9 + (tk f9 + 2)))) (by omega) 1) rfl d_Mo_needBody_80 (fun H locs S => ?_)
  obtain ⟨Ld, he_Ld⟩ : ∃ x9 : Nat → Int64, x9 = va_up Lc ((22 * 40 + 21) * 41 + (fs f9 + (tk f9 + 2))) 1 := ⟨_, rfl⟩
  have d1 : lz Ld (22 * 40 + 20) ≤ 1 := by rw [he_Ld]; rw [lz_up_ne (by omega) (by decide)]; exact c1
  have d2 : lz Ld (22 * 40 + 21) ≤ 1 := by rw [he_Ld]; exact m_one c2 (by omega)
  have S : Sw G A s.heap H locs [((ma 0), .inl (k 0, 4, .inl (fun i => nI (tk i)))), ((ma 1), .inl (k 0, 800, .inl wd)), ((ma 3), .inl (k 0, 800, .inl (fun i => nI (En i)))), ((ma 15), .inl (k 1, 3690, .inr (.inl sm))), ((ma 16), .inl (k 0, 20, .inl (fun i => nI (NB i)))), ((ma 17), .inl (k 0, 20, .inl (fun i => nI (NA i)))), ((ma 18), .inl (k 0, 20, .inl (fun i => nI (NK i)))), ((ma 19), .inl (k 0, 20, .inl (fun i => nI (NP i)))), ((ma 20), .inl (k 0, 20, .inl (fun i => nI (NQ i)))), ((ma 13), .inl (k 1, 36982, .inr (.inl Ld))), (h0, .inr (8, moL ma (va_up (va_up (va_up (va_up iv 14 (nI un)) 15 (nI co9)) 16 (nI fl)) 13 0) co)), ((ma 14), .inl (k 0, 4, .inl (fun i => nI (fs i))))] := by rw [he_Ld]; exact S
  refine lv_aload_n hx hb d_Mo_needBody_81 rfl (lv_at hl 0 rfl) ?_
  refine lv_iload_n hx hb d_Mo_needBody_82 rfl (lv_at hl 1 rfl) ?_
  refine lv_bipush (v := 40) hx hb d_Mo_needBody_83 (by decide) ?_
  refine lv_bipush (v := 20) hx hb d_Mo_needBody_85 (by decide) ?_
  refine r_backi (wi := []) (wr := [((ma 0), .inl (k 0, 4, .inl (fun i => nI (tk i)))), ((ma 1), .inl (k 0, 800, .inl wd)), ((ma 3), .inl (k 0, 800, .inl (fun i => nI (En i)))), ((ma 15), .inl (k 1, 3690, .inr (.inl sm))), ((ma 16), .inl (k 0, 20, .inl (fun i => nI (NB i)))), ((ma 17), .inl (k 0, 20, .inl (fun i => nI (NA i)))), ((ma 18), .inl (k 0, 20, .inl (fun i => nI (NK i)))), ((ma 19), .inl (k 0, 20, .inl (fun i => nI (NP i)))), ((ma 20), .inl (k 0, 20, .inl (fun i => nI (NQ i)))), ((ma 13), .inl (k 1, 36982, .inr (.inl Ld))), (h0, .inr (8, moL ma (va_up (va_up (va_up (va_up iv 14 (nI un)) 15 (nI co9)) 16 (nI fl)) 13 0) co)), ((ma 14), .inl (k 0, 4, .inl (fun i => nI (fs i))))]) S hA [] [0, 1, 2, 3, 4, 5, 6, 7, 8, 9, 10, 11] rfl rfl (by decide) (by decide) (va_runS (As := [.int 40, .int 20]) (rest := [.int (nI f9), .ref h0]) ⟨hx, hb, C.2.2.1, C.2.2.2.1, C.2.2.2.2.1⟩ (g_Mo_line l G k _ 40 20) (k_stat (n := 2) C wc_Mo_line rfl rfl wz_Mo wm_Mo_211 wt_Mo_line (by decide +kernel) ⟨(Nat.le_of_ble_eq_true rfl), (Nat.le_of_ble_eq_true rfl)⟩) (pr_now K S [] (by decide) rfl) rfl rfl hl.1 rfl (lv_room (Nat.le_of_ble_eq_true rfl)) d_Mo_needBody_87 ⟨(Nat.le_of_ble_eq_true rfl), (Nat.le_of_ble_eq_true rfl)⟩) (fun r31 u29 H locs hw30 S => ?_)
  have S : Sw G A s.heap _ _ [((ma 0), .inl (k 0, 4, .inl (fun i => nI (tk i)))), ((ma 1), .inl (k 0, 800, .inl wd)), ((ma 3), .inl (k 0, 800, .inl (fun i => nI (En i)))), ((ma 15), .inl (k 1, 3690, .inr (.inl sm))), ((ma 16), .inl (k 0, 20, .inl (fun i => nI (NB i)))), ((ma 17), .inl (k 0, 20, .inl (fun i => nI (NA i)))), ((ma 18), .inl (k 0, 20, .inl (fun i => nI (NK i)))), ((ma 19), .inl (k 0, 20, .inl (fun i => nI (NP i)))), ((ma 20), .inl (k 0, 20, .inl (fun i => nI (NQ i)))), ((ma 13), .inl (k 1, 36982, .inr (.inl Ld))), (h0, .inr (8, moL ma (va_up (va_up (va_up (va_up iv 14 (nI un)) 15 (nI co9)) 16 (nI fl)) 13 0) co)), ((ma 14), .inl (k 0, 4, .inl (fun i => nI (fs i))))] := S
  obtain rfl : r31 = nI ((22 * 40 + 20) * 41) := hw30
  refine lv_bipush (v := 40) hx hb d_Mo_needBody_90 (by decide) ?_
  refine lv_bipush (v := 21) hx hb d_Mo_needBody_92 (by decide) ?_
  refine r_backi (wi := []) (wr := [((ma 0), .inl (k 0, 4, .inl (fun i => nI (tk i)))), ((ma 1), .inl (k 0, 800, .inl wd)), ((ma 3), .inl (k 0, 800, .inl (fun i => nI (En i)))), ((ma 15), .inl (k 1, 3690, .inr (.inl sm))), ((ma 16), .inl (k 0, 20, .inl (fun i => nI (NB i)))), ((ma 17), .inl (k 0, 20, .inl (fun i => nI (NA i)))), ((ma 18), .inl (k 0, 20, .inl (fun i => nI (NK i)))), ((ma 19), .inl (k 0, 20, .inl (fun i => nI (NP i)))), ((ma 20), .inl (k 0, 20, .inl (fun i => nI (NQ i)))), ((ma 13), .inl (k 1, 36982, .inr (.inl Ld))), (h0, .inr (8, moL ma (va_up (va_up (va_up (va_up iv 14 (nI un)) 15 (nI co9)) 16 (nI fl)) 13 0) co)), ((ma 14), .inl (k 0, 4, .inl (fun i => nI (fs i))))]) S hA [] [0, 1, 2, 3, 4, 5, 6, 7, 8, 9, 10, 11] rfl rfl (by decide) (by decide) (va_runS (As := [.int 40, .int 21]) (rest := [.int (nI ((22 * 40 + 20) * 41)), .int (nI f9), .ref h0]) ⟨hx, hb, C.2.2.1, C.2.2.2.1, C.2.2.2.2.1⟩ (g_Mo_line l G k _ 40 21) (k_stat (n := 2) C wc_Mo_line rfl rfl wz_Mo wm_Mo_211 wt_Mo_line (by decide +kernel) ⟨(Nat.le_of_ble_eq_true rfl), (Nat.le_of_ble_eq_true rfl)⟩) (pr_now K S [] (by decide) rfl) rfl rfl hl.1 rfl (lv_room (Nat.le_of_ble_eq_true rfl)) d_Mo_needBody_94 ⟨(Nat.le_of_ble_eq_true rfl), (Nat.le_of_ble_eq_true rfl)⟩) (fun r35 u33 H locs hw34 S => ?_)
  have S : Sw G A s.heap _ _ [((ma 0), .inl (k 0, 4, .inl (fun i => nI (tk i)))), ((ma 1), .inl (k 0, 800, .inl wd)), ((ma 3), .inl (k 0, 800, .inl (fun i => nI (En i)))), ((ma 15), .inl (k 1, 3690, .inr (.inl sm))), ((ma 16), .inl (k 0, 20, .inl (fun i => nI (NB i)))), ((ma 17), .inl (k 0, 20, .inl (fun i => nI (NA i)))), ((ma 18), .inl (k 0, 20, .inl (fun i => nI (NK i)))), ((ma 19), .inl (k 0, 20, .inl (fun i => nI (NP i)))), ((ma 20), .inl (k 0, 20, .inl (fun i => nI (NQ i)))), ((ma 13), .inl (k 1, 36982, .inr (.inl Ld))), (h0, .inr (8, moL ma (va_up (va_up (va_up (va_up iv 14 (nI un)) 15 (nI co9)) 16 (nI fl)) 13 0) co)), ((ma 14), .inl (k 0, 4, .inl (fun i => nI (fs i))))] := S
  obtain rfl : r35 = nI ((22 * 40 + 21) * 41) := hw34
  refine r_backi (wi := [(h0, .inr (8, moL ma (va_up (va_up (va_up (va_up iv 14 (nI un)) 15 (nI co9)) 16 (nI fl)) 13 (nI 0)) co)), ((ma 0), .inl (k 0, 4, .inl (fun i => nI (tk i)))), ((ma 1), .inl (k 0, 800, .inl wd)), ((ma 3), .inl (k 0, 800, .inl (fun i => nI (En i)))), ((ma 14), .inl (k 0, 4, .inl (fun i => nI (fs i)))), ((ma 13), .inl (k 1, 36982, .inr (.inl Ld))), ((ma 15), .inl (k 1, 3690, .inr (.inl sm))), ((ma 16), .inl (k 0, 20, .inl (fun i => nI (NB i)))), ((ma 17), .inl (k 0, 20, .inl (fun i => nI (NA i)))), ((ma 18), .inl (k 0, 20, .inl (fun i => nI (NK i)))), ((ma 19), .inl (k 0, 20, .inl (fun i => nI (NP i)))), ((ma 20), .inl (k 0, 20, .inl (fun i => nI (NQ i))))]) (wr := []) S hA [10, 0, 1, 2, 11, 9, 3, 4, 5, 6, 7, 8] [] rfl rfl (by decide) (by decide) (va_runV (As := [.int (nI f9), .int (nI ((22 * 40 + 20) * 41)), .int (nI ((22 * 40 + 21) * 41))]) (rest := []) ⟨hx, hb, C.2.2.1, C.2.2.2.1, C.2.2.2.2.1⟩ (g_Mo_needOf l G k h0 _ f9 (22 * 40 + 20) (22 * 40 + 21) q9 nf un co9 fl 0 ma iv co tk fs En wd Ld sm NB NA NK NP NQ hf hnf htk hw hq (by omega) hfs (Or.inr (by decide)) (Or.inr (by decide)) d1 d2 hflo hsm (by omega) (by omega)) (k_virt (n := 3) C wc_Mo_needOf rfl rfl wz_Mo wm_Mo_273 wn_Mo_needOf ws_Mo_needOf (by decide +kernel) ⟨(Nat.le_of_ble_eq_true rfl), (Nat.le_of_ble_eq_true rfl)⟩) (pr_nowV K S [10, 0, 1, 2, 11, 9, 3, 4, 5, 6, 7, 8] (by decide) rfl 10 rfl rfl) rfl rfl hl.1 rfl (lv_room (Nat.le_of_ble_eq_true rfl)) d_Mo_needBody_97 ⟨(Nat.le_of_ble_eq_true rfl), (Nat.le_of_ble_eq_true rfl)⟩) (fun r38 nu H locs hw37 S => ?_)
  have S : Sw G A s.heap _ _ [(h0, .inr (8, moL ma (va_up (va_up (va_up (va_up (va_up (va_up iv 14 (nI (un + ucT (wdF wd f9) tk (enF En f9) 16 (tk f9) 0))) 15 (nI (co9 + ccT (wdF wd f9) tk (enF En f9) 16 (tk f9) 0))) 16 (nI nu.2.2.1)) 13 (nI nu.2.2.2.2)) 17 0) 18 (nI 0)) co)), ((ma 0), .inl (k 0, 4, .inl (fun i => nI (tk i)))), ((ma 1), .inl (k 0, 800, .inl wd)), ((ma 3), .inl (k 0, 800, .inl (fun i => nI (En i)))), ((ma 14), .inl (k 0, 4, .inl (fun i => nI (fs i)))), ((ma 13), .inl (k 1, 36982, .inr (.inl nu.1))), ((ma 15), .inl (k 1, 3690, .inr (.inl nu.2.1))), ((ma 16), .inl (k 0, 20, .inl (fun i => nI (nu.2.2.2.1 0 i)))), ((ma 17), .inl (k 0, 20, .inl (fun i => nI (nu.2.2.2.1 1 i)))), ((ma 18), .inl (k 0, 20, .inl (fun i => nI (nu.2.2.2.1 2 i)))), ((ma 19), .inl (k 0, 20, .inl (fun i => nI (nu.2.2.2.1 3 i)))), ((ma 20), .inl (k 0, 20, .inl (fun i => nI (nu.2.2.2.1 4 i))))] := S
  obtain ⟨hw370, hnu⟩ := hw37
  obtain rfl : r38 = nI 0 := hw370
  have ub := ucT_le (W := (wdF wd f9)) (tk := tk) (E := (enF En f9)) 16 (tk f9) 0 (by omega)
  obtain ⟨n1, n2, n3, n4⟩ := hnu
  refine lv_istore_n (lv' := [(2, .int (nI 0)), (0, .ref h0), (1, .int (nI f9))]) hx hb d_Mo_needBody_100 rfl hl (by decide) rfl (fun ls hl => ?_)
  refine lv_iconst (v := 0) hx hb d_Mo_needBody_101 (by decide) ?_
  refine lv_istore_n (lv' := [(3, .int 0), (2, .int (nI 0)), (0, .ref h0), (1, .int (nI f9))]) hx hb d_Mo_needBody_102 rfl hl (by decide) rfl (fun ls hl => ?_)
  have lp : ∀ d9, ∀ (i9 : Nat), ∀ (co8 : Nat), ∀ (fl8 : Nat), ∀ (s8 : Nat → Int64), (tk f9 - i9) < d9 → (i9 ≤ tk f9) → (co8 = co9 + ccT (wdF wd f9) tk (enF En f9) 16 (tk f9) 0 + i9) → (flO (un + ucT (wdF wd f9) tk (enF En f9) 16 (tk f9) 0) co8 fl8) → (smO co8 s8) → ∀ (H : Heap) (locs : List Loc), Sw G A s.heap H locs [(h0, .inr (8, moL ma (va_up (va_up (va_up (va_up (va_up (va_up iv 14 (nI (un + ucT (wdF wd f9) tk (enF En f9) 16 (tk f9) 0))) 15 (nI co8)) 16 (nI fl8)) 13 (nI nu.2.2.2.2)) 17 0) 18 (nI 0)) co)), ((ma 0), .inl (k 0, 4, .inl (fun i => nI (tk i)))), ((ma 1), .inl (k 0, 800, .inl wd)), ((ma 3), .inl (k 0, 800, .inl (fun i => nI (En i)))), ((ma 14), .inl (k 0, 4, .inl (fun i => nI (fs i)))), ((ma 13), .inl (k 1, 36982, .inr (.inl nu.1))), ((ma 15), .inl (k 1, 3690, .inr (.inl s8))), ((ma 16), .inl (k 0, 20, .inl (fun i => nI (nu.2.2.2.1 0 i)))), ((ma 17), .inl (k 0, 20, .inl (fun i => nI (nu.2.2.2.1 1 i)))), ((ma 18), .inl (k 0, 20, .inl (fun i => nI (nu.2.2.2.1 2 i)))), ((ma 19), .inl (k 0, 20, .inl (fun i => nI (nu.2.2.2.1 3 i)))), ((ma 20), .inl (k 0, 20, .inl (fun i => nI (nu.2.2.2.1 4 i))))] → ∀ ls : Array Slot, lv_has ls 4 [(3, .int (nI i9)), (2, .int (nI 0)), (0, .ref h0), (1, .int (nI f9))] → W p l e { frames := 5, cells := 0, slots := 0, locals := 135 } s m [Value.ref h0, Value.int (nI f9)].toArray below meth c H locs 0 0 (MQ below (va_Qv (fun (u : (Nat → Int64) × (Nat → Int64) × Nat × (Nat → Nat → Nat) × Nat) => flO (un + ucT (wdF wd f9) tk (enF En f9) 16 (tk f9) 0) (co9 + (ccT (wdF wd f9) tk (enF En f9) 16 (tk f9) 0 + tk f9 + 1)) u.2.2.1 ∧ smO (co9 + (ccT (wdF wd f9) tk (enF En f9) 16 (tk f9) 0 + tk f9 + 1)) u.2.1) (Po G k A (fun u => [(h0, .inr (8, moL ma (va_up (va_up (va_up (va_up (va_up (va_up iv 14 (nI (un + ucT (wdF wd f9) tk (enF En f9) 16 (tk f9) 0))) 15 (nI (co9 + (ccT (wdF wd f9) tk (enF En f9) 16 (tk f9) 0 + tk f9 + 1)))) 16 (nI u.2.2.1)) 13 (nI u.2.2.2.2)) 17 0) 18 0) co)), ((ma 0), .inl (k 0, 4, .inl (fun i => nI (tk i)))), ((ma 1), .inl (k 0, 800, .inl wd)), ((ma 3), .inl (k 0, 800, .inl (fun i => nI (En i)))), ((ma 14), .inl (k 0, 4, .inl (fun i => nI (fs i)))), ((ma 13), .inl (k 1, 36982, .inr (.inl u.1))), ((ma 15), .inl (k 1, 3690, .inr (.inl u.2.1))), ((ma 16), .inl (k 0, 20, .inl (fun i => nI (u.2.2.2.1 0 i)))), ((ma 17), .inl (k 0, 20, .inl (fun i => nI (u.2.2.2.1 1 i)))), ((ma 18), .inl (k 0, 20, .inl (fun i => nI (u.2.2.2.1 2 i)))), ((ma 19), .inl (k 0, 20, .inl (fun i => nI (u.2.2.2.1 3 i)))), ((ma 20), .inl (k 0, 20, .inl (fun i => nI (u.2.2.2.1 4 i))))])) A) [Value.ref h0, Value.int (nI f9)].toArray s 0 0 A) (F0 m 103 ls []) := by
    intro d9
    induction d9 with
    | zero => intro i9 co8 fl8 s8 hm; exact absurd hm (Nat.not_lt_zero _)
    | succ d9 ih_lp =>
      intro i9 co8 fl8 s8 hm hi hc8 hf8 hs8 H locs S ls hl
      refine lv_iload_n hx hb d_Mo_needBody_103 rfl (lv_at hl 0 rfl) ?_
      refine lv_aload_n hx hb d_Mo_needBody_104 rfl (lv_at hl 2 rfl) ?_
      refine r_get C K S 0 rfl rfl clOk_Mo 1 (by decide) wf_Mo_9 (v := .ref (ma 0)) rfl d_Mo_needBody_105 ?_
      refine lv_iload_n hx hb d_Mo_needBody_108 rfl (lv_at hl 3 rfl) ?_
      refine r_iald C K S 1 rfl (i := nI f9) (show vp_in (nI f9) _ from vp_in_nI (n := f9) (by omega) (by decide)) (v := nI (tk f9)) (by rw [nI_clamp (by omega)]) d_Mo_needBody_109 ?_
      refine z_icmp_ge (a := i9) (b := (tk f9)) (tgt := 134) hx hb d_Mo_needBody_110 (by decide) (by omega) (by omega) (fun hc39 => ?_) (fun hc39 => ?_)
      · refine lv_aload_n hx hb d_Mo_needBody_134 rfl (lv_at hl 2 rfl) ?_
        refine lv_aload_n hx hb d_Mo_needBody_135 rfl (lv_at hl 2 rfl) ?_
        refine lv_iload_n hx hb d_Mo_needBody_136 rfl (lv_at hl 3 rfl) ?_
        refine lv_aload_n hx hb d_Mo_needBody_137 rfl (lv_at hl 2 rfl) ?_
        refine r_get C K S 0 rfl rfl clOk_Mo 1 (by decide) wf_Mo_9 (v := .ref (ma 0)) rfl d_Mo_needBody_138 ?_
        refine lv_iload_n hx hb d_Mo_needBody_141 rfl (lv_at hl 3 rfl) ?_
        refine r_iald C K S 1 rfl (i := nI f9) (show vp_in (nI f9) _ from vp_in_nI (n := f9) (by omega) (by decide)) (v := nI (tk f9)) (by rw [nI_clamp (by omega)]) d_Mo_needBody_142 ?_
        refine r_backi (wi := [(h0, .inr (8, moL ma (va_up (va_up (va_up (va_up (va_up (va_up iv 14 (nI (un + ucT (wdF wd f9) tk (enF En f9) 16 (tk f9) 0))) 15 (nI co8)) 16 (nI fl8)) 13 (nI nu.2.2.2.2)) 17 0) 18 (nI 0)) co)), ((ma 14), .inl (k 0, 4, .inl (fun i => nI (fs i))))]) (wr := [((ma 0), .inl (k 0, 4, .inl (fun i => nI (tk i)))), ((ma 1), .inl (k 0, 800, .inl wd)), ((ma 3), .inl (k 0, 800, .inl (fun i => nI (En i)))), ((ma 13), .inl (k 1, 36982, .inr (.inl nu.1))), ((ma 15), .inl (k 1, 3690, .inr (.inl s8))), ((ma 16), .inl (k 0, 20, .inl (fun i => nI (nu.2.2.2.1 0 i)))), ((ma 17), .inl (k 0, 20, .inl (fun i => nI (nu.2.2.2.1 1 i)))), ((ma 18), .inl (k 0, 20, .inl (fun i => nI (nu.2.2.2.1 2 i)))), ((ma 19), .inl (k 0, 20, .inl (fun i => nI (nu.2.2.2.1 3 i)))), ((ma 20), .inl (k 0, 20, .inl (fun i => nI (nu.2.2.2.1 4 i))))]) S hA [0, 4] [1, 2, 3, 5, 6, 7, 8, 9, 10, 11] rfl rfl (by decide) (by decide) (va_runV (As := [.int (nI f9), .int (nI (tk f9))]) (rest := [.ref h0]) ⟨hx, hb, C.2.2.1, C.2.2.2.1, C.2.2.2.2.1⟩ (g_Mo_unknown l G k h0 _ ma (va_up (va_up (va_up (va_up (va_up (va_up iv 14 (nI (un + ucT (wdF wd f9) tk (enF En f9) 16 (tk f9) 0))) 15 (nI co8)) 16 (nI fl8)) 13 (nI nu.2.2.2.2)) 17 0) 18 (nI 0)) co fs f9 (tk f9) (by omega)) (k_virt (n := 2) C wc_Mo_unknown rfl rfl wz_Mo wm_Mo_263 wn_Mo_unknown ws_Mo_unknown (by decide +kernel) ⟨(Nat.le_of_ble_eq_true rfl), (Nat.le_of_ble_eq_true rfl)⟩) (pr_nowV K S [0, 4] (by decide) rfl 0 rfl rfl) rfl rfl hl.1 rfl (lv_room (Nat.le_of_ble_eq_true rfl)) d_Mo_needBody_143 ⟨(Nat.le_of_ble_eq_true rfl), (Nat.le_of_ble_eq_true rfl)⟩) (fun r42 u40 H locs hw41 S => ?_)
        have S : Sw G A s.heap _ _ [((ma 0), .inl (k 0, 4, .inl (fun i => nI (tk i)))), ((ma 1), .inl (k 0, 800, .inl wd)), ((ma 3), .inl (k 0, 800, .inl (fun i => nI (En i)))), ((ma 13), .inl (k 1, 36982, .inr (.inl nu.1))), ((ma 15), .inl (k 1, 3690, .inr (.inl s8))), ((ma 16), .inl (k 0, 20, .inl (fun i => nI (nu.2.2.2.1 0 i)))), ((ma 17), .inl (k 0, 20, .inl (fun i => nI (nu.2.2.2.1 1 i)))), ((ma 18), .inl (k 0, 20, .inl (fun i => nI (nu.2.2.2.1 2 i)))), ((ma 19), .inl (k 0, 20, .inl (fun i => nI (nu.2.2.2.1 3 i)))), ((ma 20), .inl (k 0, 20, .inl (fun i => nI (nu.2.2.2.1 4 i)))), (h0, .inr (8, moL ma (va_up (va_up (va_up (va_up (va_up (va_up iv 14 (nI (un + ucT (wdF wd f9) tk (enF En f9) 16 (tk f9) 0))) 15 (nI co8)) 16 (nI fl8)) 13 (nI nu.2.2.2.2)) 17 0) 18 (nI 0)) co)), ((ma 14), .inl (k 0, 4, .inl (fun i => nI (fs i))))] := S
        obtain rfl : r42 = nI (fs f9 + (tk f9)) := hw41
        refine lv_iload_n hx hb d_Mo_needBody_146 rfl (lv_at hl 1 rfl) ?_
        refine lv_bipush (v := 19) hx hb d_Mo_needBody_147 (by decide) ?_
        refine r_backi (wi := []) (wr := [((ma 0), .inl (k 0, 4, .inl (fun i => nI (tk i)))), ((ma 1), .inl (k 0, 800, .inl wd)), ((ma 3), .inl (k 0, 800, .inl (fun i => nI (En i)))), ((ma 13), .inl (k 1, 36982, .inr (.inl nu.1))), ((ma 15), .inl (k 1, 3690, .inr (.inl s8))), ((ma 16), .inl (k 0, 20, .inl (fun i => nI (nu.2.2.2.1 0 i)))), ((ma 17), .inl (k 0, 20, .inl (fun i => nI (nu.2.2.2.1 1 i)))), ((ma 18), .inl (k 0, 20, .inl (fun i => nI (nu.2.2.2.1 2 i)))), ((ma 19), .inl (k 0, 20, .inl (fun i => nI (nu.2.2.2.1 3 i)))), ((ma 20), .inl (k 0, 20, .inl (fun i => nI (nu.2.2.2.1 4 i)))), (h0, .inr (8, moL ma (va_up (va_up (va_up (va_up (va_up (va_up iv 14 (nI (un + ucT (wdF wd f9) tk (enF En f9) 16 (tk f9) 0))) 15 (nI co8)) 16 (nI fl8)) 13 (nI nu.2.2.2.2)) 17 0) 18 (nI 0)) co)), ((ma 14), .inl (k 0, 4, .inl (fun i => nI (fs i))))]) S hA [] [0, 1, 2, 3, 4, 5, 6, 7, 8, 9, 10, 11] rfl rfl (by decide) (by decide) (va_runS (As := [.int (nI 0), .int 19]) (rest := [.int (nI (fs f9 + (tk f9))), .ref h0]) ⟨hx, hb, C.2.2.1, C.2.2.2.1, C.2.2.2.2.1⟩ (g_Mo_line l G k _ 0 19) (k_stat (n := 2) C wc_Mo_line rfl rfl wz_Mo wm_Mo_211 wt_Mo_line (by decide +kernel) ⟨(Nat.le_of_ble_eq_true rfl), (Nat.le_of_ble_eq_true rfl)⟩) (pr_now K S [] (by decide) rfl) rfl rfl hl.1 rfl (lv_room (Nat.le_of_ble_eq_true rfl)) d_Mo_needBody_149 ⟨(Nat.le_of_ble_eq_true rfl), (Nat.le_of_ble_eq_true rfl)⟩) (fun r46 u44 H locs hw45 S => ?_)
        have S : Sw G A s.heap _ _ [((ma 0), .inl (k 0, 4, .inl (fun i => nI (tk i)))), ((ma 1), .inl (k 0, 800, .inl wd)), ((ma 3), .inl (k 0, 800, .inl (fun i => nI (En i)))), ((ma 13), .inl (k 1, 36982, .inr (.inl nu.1))), ((ma 15), .inl (k 1, 3690, .inr (.inl s8))), ((ma 16), .inl (k 0, 20, .inl (fun i => nI (nu.2.2.2.1 0 i)))), ((ma 17), .inl (k 0, 20, .inl (fun i => nI (nu.2.2.2.1 1 i)))), ((ma 18), .inl (k 0, 20, .inl (fun i => nI (nu.2.2.2.1 2 i)))), ((ma 19), .inl (k 0, 20, .inl (fun i => nI (nu.2.2.2.1 3 i)))), ((ma 20), .inl (k 0, 20, .inl (fun i => nI (nu.2.2.2.1 4 i)))), (h0, .inr (8, moL ma (va_up (va_up (va_up (va_up (va_up (va_up iv 14 (nI (un + ucT (wdF wd f9) tk (enF En f9) 16 (tk f9) 0))) 15 (nI co8)) 16 (nI fl8)) 13 (nI nu.2.2.2.2)) 17 0) 18 (nI 0)) co)), ((ma 14), .inl (k 0, 4, .inl (fun i => nI (fs i))))] := S
        obtain rfl : r46 = nI ((22 * 0 + 19) * 41) := hw45
        refine r_backv (wi := [(h0, .inr (8, moL ma (va_up (va_up (va_up (va_up (va_up (va_up iv 14 (nI (un + ucT (wdF wd f9) tk (enF En f9) 16 (tk f9) 0))) 13 (nI nu.2.2.2.2)) 17 0) 18 (nI 0)) 15 (nI co8)) 16 (nI fl8)) co)), ((ma 13), .inl (k 1, 36982, .inr (.inl nu.1))), ((ma 15), .inl (k 1, 3690, .inr (.inl s8)))]) (wr := [((ma 0), .inl (k 0, 4, .inl (fun i => nI (tk i)))), ((ma 1), .inl (k 0, 800, .inl wd)), ((ma 3), .inl (k 0, 800, .inl (fun i => nI (En i)))), ((ma 16), .inl (k 0, 20, .inl (fun i => nI (nu.2.2.2.1 0 i)))), ((ma 17), .inl (k 0, 20, .inl (fun i => nI (nu.2.2.2.1 1 i)))), ((ma 18), .inl (k 0, 20, .inl (fun i => nI (nu.2.2.2.1 2 i)))), ((ma 19), .inl (k 0, 20, .inl (fun i => nI (nu.2.2.2.1 3 i)))), ((ma 20), .inl (k 0, 20, .inl (fun i => nI (nu.2.2.2.1 4 i)))), ((ma 14), .inl (k 0, 4, .inl (fun i => nI (fs i))))]) S hA [10, 3, 4] [0, 1, 2, 5, 6, 7, 8, 9, 11] rfl rfl (by decide) (by decide) (va_runV (As := [.int (nI (fs f9 + (tk f9))), .int (nI ((22 * 0 + 19) * 41))]) (rest := []) ⟨hx, hb, C.2.2.1, C.2.2.2.1, C.2.2.2.2.1⟩ (g_Mo_atLeast l G k h0 _ (fs f9 + (tk f9)) (22 * 0 + 19) co8 fl8 ma (va_up (va_up (va_up (va_up iv 14 (nI (un + ucT (wdF wd f9) tk (enF En f9) 16 (tk f9) 0))) 13 (nI nu.2.2.2.2)) 17 0) 18 (nI 0)) co nu.1 s8 (by omega) (by omega) (by omega) (flO_le hf8)) (k_virt (n := 2) C wc_Mo_atLeast rfl rfl wz_Mo wm_Mo_266 wn_Mo_atLeast ws_Mo_atLeast (by decide +kernel) ⟨(Nat.le_of_ble_eq_true rfl), (Nat.le_of_ble_eq_true rfl)⟩) (pr_nowV K S [10, 3, 4] (by decide) rfl 10 rfl rfl) rfl rfl hl.1 rfl (lv_room (Nat.le_of_ble_eq_true rfl)) d_Mo_needBody_152 ⟨(Nat.le_of_ble_eq_true rfl), (Nat.le_of_ble_eq_true rfl)⟩) (fun s7 H locs hw48 S => ?_)
        have S : Sw G A s.heap _ _ [((ma 0), .inl (k 0, 4, .inl (fun i => nI (tk i)))), ((ma 1), .inl (k 0, 800, .inl wd)), ((ma 3), .inl (k 0, 800, .inl (fun i => nI (En i)))), ((ma 16), .inl (k 0, 20, .inl (fun i => nI (nu.2.2.2.1 0 i)))), ((ma 17), .inl (k 0, 20, .inl (fun i => nI (nu.2.2.2.1 1 i)))), ((ma 18), .inl (k 0, 20, .inl (fun i => nI (nu.2.2.2.1 2 i)))), ((ma 19), .inl (k 0, 20, .inl (fun i => nI (nu.2.2.2.1 3 i)))), ((ma 20), .inl (k 0, 20, .inl (fun i => nI (nu.2.2.2.1 4 i)))), ((ma 14), .inl (k 0, 4, .inl (fun i => nI (fs i)))), (h0, .inr (8, moL ma (va_up (va_up (va_up (va_up (va_up (va_up iv 14 (nI (un + ucT (wdF wd f9) tk (enF En f9) 16 (tk f9) 0))) 13 (nI nu.2.2.2.2)) 17 0) 18 (nI 0)) 15 (nI (co8 + 1))) 16 (nI (fcN co8 fl8))) co)), ((ma 13), .inl (k 1, 36982, .inr (.inl nu.1))), ((ma 15), .inl (k 1, 3690, .inr (.inl s7)))] := S
        have fe := flO_c hf8
        have hs7 := smO_s hs8 hw48.1 (Nat.le_trans hw48.2 (by omega))
        have hce : co8 + 1 = co9 + (ccT (wdF wd f9) tk (enF En f9) 16 (tk f9) 0 + tk f9 + 1) := by omega
        rw [hce] at fe hs7
        have S : Sw G A s.heap H locs [((ma 0), .inl (k 0, 4, .inl (fun i => nI (tk i)))), ((ma 1), .inl (k 0, 800, .inl wd)), ((ma 3), .inl (k 0, 800, .inl (fun i => nI (En i)))), ((ma 16), .inl (k 0, 20, .inl (fun i => nI (nu.2.2.2.1 0 i)))), ((ma 17), .inl (k 0, 20, .inl (fun i => nI (nu.2.2.2.1 1 i)))), ((ma 18), .inl (k 0, 20, .inl (fun i => nI (nu.2.2.2.1 2 i)))), ((ma 19), .inl (k 0, 20, .inl (fun i => nI (nu.2.2.2.1 3 i)))), ((ma 20), .inl (k 0, 20, .inl (fun i => nI (nu.2.2.2.1 4 i)))), ((ma 14), .inl (k 0, 4, .inl (fun i => nI (fs i)))), (h0, .inr (8, moL ma (va_up (va_up (va_up (va_up (va_up (va_up iv 14 (nI (un + ucT (wdF wd f9) tk (enF En f9) 16 (tk f9) 0))) 13 (nI nu.2.2.2.2)) 17 0) 18 (nI 0)) 15 (nI (co9 + (ccT (wdF wd f9) tk (enF En f9) 16 (tk f9) 0 + tk f9 + 1)))) 16 (nI (fcN co8 fl8))) co)), ((ma 13), .inl (k 1, 36982, .inr (.inl nu.1))), ((ma 15), .inl (k 1, 3690, .inr (.inl s7)))] := by rw [← hce]; exact S
        exact r_vret C K (nu.1, s7, (fcN co8 fl8), nu.2.2.2.1, nu.2.2.2.2) ⟨fe, hs7⟩ (S.sub [9, 0, 1, 2, 8, 10, 11, 3, 4, 5, 6, 7] (by decide) rfl) d_Mo_needBody_155 (Nat.le_of_ble_eq_true rfl) (Nat.le_of_ble_eq_true rfl)
      · refine lv_aload_n hx hb d_Mo_needBody_113 rfl (lv_at hl 2 rfl) ?_
        refine lv_aload_n hx hb d_Mo_needBody_114 rfl (lv_at hl 2 rfl) ?_
        refine lv_iload_n hx hb d_Mo_needBody_115 rfl (lv_at hl 3 rfl) ?_
        refine lv_iload_n hx hb d_Mo_needBody_116 rfl (lv_at hl 0 rfl) ?_
        refine r_backi (wi := [(h0, .inr (8, moL ma (va_up (va_up (va_up (va_up (va_up (va_up iv 14 (nI (un + ucT (wdF wd f9) tk (enF En f9) 16 (tk f9) 0))) 15 (nI co8)) 16 (nI fl8)) 13 (nI nu.2.2.2.2)) 17 0) 18 (nI 0)) co)), ((ma 14), .inl (k 0, 4, .inl (fun i => nI (fs i))))]) (wr := [((ma 0), .inl (k 0, 4, .inl (fun i => nI (tk i)))), ((ma 1), .inl (k 0, 800, .inl wd)), ((ma 3), .inl (k 0, 800, .inl (fun i => nI (En i)))), ((ma 13), .inl (k 1, 36982, .inr (.inl nu.1))), ((ma 15), .inl (k 1, 3690, .inr (.inl s8))), ((ma 16), .inl (k 0, 20, .inl (fun i => nI (nu.2.2.2.1 0 i)))), ((ma 17), .inl (k 0, 20, .inl (fun i => nI (nu.2.2.2.1 1 i)))), ((ma 18), .inl (k 0, 20, .inl (fun i => nI (nu.2.2.2.1 2 i)))), ((ma 19), .inl (k 0, 20, .inl (fun i => nI (nu.2.2.2.1 3 i)))), ((ma 20), .inl (k 0, 20, .inl (fun i => nI (nu.2.2.2.1 4 i))))]) S hA [0, 4] [1, 2, 3, 5, 6, 7, 8, 9, 10, 11] rfl rfl (by decide) (by decide) (va_runV (As := [.int (nI f9), .int (nI i9)]) (rest := [.ref h0]) ⟨hx, hb, C.2.2.1, C.2.2.2.1, C.2.2.2.2.1⟩ (g_Mo_unknown l G k h0 _ ma (va_up (va_up (va_up (va_up (va_up (va_up iv 14 (nI (un + ucT (wdF wd f9) tk (enF En f9) 16 (tk f9) 0))) 15 (nI co8)) 16 (nI fl8)) 13 (nI nu.2.2.2.2)) 17 0) 18 (nI 0)) co fs f9 i9 (by omega)) (k_virt (n := 2) C wc_Mo_unknown rfl rfl wz_Mo wm_Mo_263 wn_Mo_unknown ws_Mo_unknown (by decide +kernel) ⟨(Nat.le_of_ble_eq_true rfl), (Nat.le_of_ble_eq_true rfl)⟩) (pr_nowV K S [0, 4] (by decide) rfl 0 rfl rfl) rfl rfl hl.1 rfl (lv_room (Nat.le_of_ble_eq_true rfl)) d_Mo_needBody_117 ⟨(Nat.le_of_ble_eq_true rfl), (Nat.le_of_ble_eq_true rfl)⟩) (fun r51 u49 H locs hw50 S => ?_)
        have S : Sw G A s.heap _ _ [((ma 0), .inl (k 0, 4, .inl (fun i => nI (tk i)))), ((ma 1), .inl (k 0, 800, .inl wd)), ((ma 3), .inl (k 0, 800, .inl (fun i => nI (En i)))), ((ma 13), .inl (k 1, 36982, .inr (.inl nu.1))), ((ma 15), .inl (k 1, 3690, .inr (.inl s8))), ((ma 16), .inl (k 0, 20, .inl (fun i => nI (nu.2.2.2.1 0 i)))), ((ma 17), .inl (k 0, 20, .inl (fun i => nI (nu.2.2.2.1 1 i)))), ((ma 18), .inl (k 0, 20, .inl (fun i => nI (nu.2.2.2.1 2 i)))), ((ma 19), .inl (k 0, 20, .inl (fun i => nI (nu.2.2.2.1 3 i)))), ((ma 20), .inl (k 0, 20, .inl (fun i => nI (nu.2.2.2.1 4 i)))), (h0, .inr (8, moL ma (va_up (va_up (va_up (va_up (va_up (va_up iv 14 (nI (un + ucT (wdF wd f9) tk (enF En f9) 16 (tk f9) 0))) 15 (nI co8)) 16 (nI fl8)) 13 (nI nu.2.2.2.2)) 17 0) 18 (nI 0)) co)), ((ma 14), .inl (k 0, 4, .inl (fun i => nI (fs i))))] := S
        obtain rfl : r51 = nI (fs f9 + i9) := hw50
        refine lv_iload_n hx hb d_Mo_needBody_120 rfl (lv_at hl 1 rfl) ?_
        refine lv_iload_n hx hb d_Mo_needBody_121 rfl (lv_at hl 0 rfl) ?_
        refine r_backi (wi := []) (wr := [((ma 0), .inl (k 0, 4, .inl (fun i => nI (tk i)))), ((ma 1), .inl (k 0, 800, .inl wd)), ((ma 3), .inl (k 0, 800, .inl (fun i => nI (En i)))), ((ma 13), .inl (k 1, 36982, .inr (.inl nu.1))), ((ma 15), .inl (k 1, 3690, .inr (.inl s8))), ((ma 16), .inl (k 0, 20, .inl (fun i => nI (nu.2.2.2.1 0 i)))), ((ma 17), .inl (k 0, 20, .inl (fun i => nI (nu.2.2.2.1 1 i)))), ((ma 18), .inl (k 0, 20, .inl (fun i => nI (nu.2.2.2.1 2 i)))), ((ma 19), .inl (k 0, 20, .inl (fun i => nI (nu.2.2.2.1 3 i)))), ((ma 20), .inl (k 0, 20, .inl (fun i => nI (nu.2.2.2.1 4 i)))), (h0, .inr (8, moL ma (va_up (va_up (va_up (va_up (va_up (va_up iv 14 (nI (un + ucT (wdF wd f9) tk (enF En f9) 16 (tk f9) 0))) 15 (nI co8)) 16 (nI fl8)) 13 (nI nu.2.2.2.2)) 17 0) 18 (nI 0)) co)), ((ma 14), .inl (k 0, 4, .inl (fun i => nI (fs i))))]) S hA [] [0, 1, 2, 3, 4, 5, 6, 7, 8, 9, 10, 11] rfl rfl (by decide) (by decide) (va_runS (As := [.int (nI 0), .int (nI i9)]) (rest := [.int (nI (fs f9 + i9)), .ref h0]) ⟨hx, hb, C.2.2.1, C.2.2.2.1, C.2.2.2.2.1⟩ (g_Mo_line l G k _ 0 i9) (k_stat (n := 2) C wc_Mo_line rfl rfl wz_Mo wm_Mo_211 wt_Mo_line (by decide +kernel) ⟨(Nat.le_of_ble_eq_true rfl), (Nat.le_of_ble_eq_true rfl)⟩) (pr_now K S [] (by decide) rfl) rfl rfl hl.1 rfl (lv_room (Nat.le_of_ble_eq_true rfl)) d_Mo_needBody_122 ⟨(Nat.le_of_ble_eq_true rfl), (Nat.le_of_ble_eq_true rfl)⟩) (fun r55 u53 H locs hw54 S => ?_)
        have S : Sw G A s.heap _ _ [((ma 0), .inl (k 0, 4, .inl (fun i => nI (tk i)))), ((ma 1), .inl (k 0, 800, .inl wd)), ((ma 3), .inl (k 0, 800, .inl (fun i => nI (En i)))), ((ma 13), .inl (k 1, 36982, .inr (.inl nu.1))), ((ma 15), .inl (k 1, 3690, .inr (.inl s8))), ((ma 16), .inl (k 0, 20, .inl (fun i => nI (nu.2.2.2.1 0 i)))), ((ma 17), .inl (k 0, 20, .inl (fun i => nI (nu.2.2.2.1 1 i)))), ((ma 18), .inl (k 0, 20, .inl (fun i => nI (nu.2.2.2.1 2 i)))), ((ma 19), .inl (k 0, 20, .inl (fun i => nI (nu.2.2.2.1 3 i)))), ((ma 20), .inl (k 0, 20, .inl (fun i => nI (nu.2.2.2.1 4 i)))), (h0, .inr (8, moL ma (va_up (va_up (va_up (va_up (va_up (va_up iv 14 (nI (un + ucT (wdF wd f9) tk (enF En f9) 16 (tk f9) 0))) 15 (nI co8)) 16 (nI fl8)) 13 (nI nu.2.2.2.2)) 17 0) 18 (nI 0)) co)), ((ma 14), .inl (k 0, 4, .inl (fun i => nI (fs i))))] := S
        obtain rfl : r55 = nI ((22 * 0 + i9) * 41) := hw54
        refine r_backv (wi := [(h0, .inr (8, moL ma (va_up (va_up (va_up (va_up (va_up (va_up iv 14 (nI (un + ucT (wdF wd f9) tk (enF En f9) 16 (tk f9) 0))) 13 (nI nu.2.2.2.2)) 17 0) 18 (nI 0)) 15 (nI co8)) 16 (nI fl8)) co)), ((ma 13), .inl (k 1, 36982, .inr (.inl nu.1))), ((ma 15), .inl (k 1, 3690, .inr (.inl s8)))]) (wr := [((ma 0), .inl (k 0, 4, .inl (fun i => nI (tk i)))), ((ma 1), .inl (k 0, 800, .inl wd)), ((ma 3), .inl (k 0, 800, .inl (fun i => nI (En i)))), ((ma 16), .inl (k 0, 20, .inl (fun i => nI (nu.2.2.2.1 0 i)))), ((ma 17), .inl (k 0, 20, .inl (fun i => nI (nu.2.2.2.1 1 i)))), ((ma 18), .inl (k 0, 20, .inl (fun i => nI (nu.2.2.2.1 2 i)))), ((ma 19), .inl (k 0, 20, .inl (fun i => nI (nu.2.2.2.1 3 i)))), ((ma 20), .inl (k 0, 20, .inl (fun i => nI (nu.2.2.2.1 4 i)))), ((ma 14), .inl (k 0, 4, .inl (fun i => nI (fs i))))]) S hA [10, 3, 4] [0, 1, 2, 5, 6, 7, 8, 9, 11] rfl rfl (by decide) (by decide) (va_runV (As := [.int (nI (fs f9 + i9)), .int (nI ((22 * 0 + i9) * 41))]) (rest := []) ⟨hx, hb, C.2.2.1, C.2.2.2.1, C.2.2.2.2.1⟩ (g_Mo_atLeast l G k h0 _ (fs f9 + i9) (22 * 0 + i9) co8 fl8 ma (va_up (va_up (va_up (va_up iv 14 (nI (un + ucT (wdF wd f9) tk (enF En f9) 16 (tk f9) 0))) 13 (nI nu.2.2.2.2)) 17 0) 18 (nI 0)) co nu.1 s8 (by omega) (by omega) (by omega) (flO_le hf8)) (k_virt (n := 2) C wc_Mo_atLeast rfl rfl wz_Mo wm_Mo_266 wn_Mo_atLeast ws_Mo_atLeast (by decide +kernel) ⟨(Nat.le_of_ble_eq_true rfl), (Nat.le_of_ble_eq_true rfl)⟩) (pr_nowV K S [10, 3, 4] (by decide) rfl 10 rfl rfl) rfl rfl hl.1 rfl (lv_room (Nat.le_of_ble_eq_true rfl)) d_Mo_needBody_125 ⟨(Nat.le_of_ble_eq_true rfl), (Nat.le_of_ble_eq_true rfl)⟩) (fun s6 H locs hw57 S => ?_)
        have S : Sw G A s.heap _ _ [((ma 0), .inl (k 0, 4, .inl (fun i => nI (tk i)))), ((ma 1), .inl (k 0, 800, .inl wd)), ((ma 3), .inl (k 0, 800, .inl (fun i => nI (En i)))), ((ma 16), .inl (k 0, 20, .inl (fun i => nI (nu.2.2.2.1 0 i)))), ((ma 17), .inl (k 0, 20, .inl (fun i => nI (nu.2.2.2.1 1 i)))), ((ma 18), .inl (k 0, 20, .inl (fun i => nI (nu.2.2.2.1 2 i)))), ((ma 19), .inl (k 0, 20, .inl (fun i => nI (nu.2.2.2.1 3 i)))), ((ma 20), .inl (k 0, 20, .inl (fun i => nI (nu.2.2.2.1 4 i)))), ((ma 14), .inl (k 0, 4, .inl (fun i => nI (fs i)))), (h0, .inr (8, moL ma (va_up (va_up (va_up (va_up (va_up (va_up iv 14 (nI (un + ucT (wdF wd f9) tk (enF En f9) 16 (tk f9) 0))) 13 (nI nu.2.2.2.2)) 17 0) 18 (nI 0)) 15 (nI (co8 + 1))) 16 (nI (fcN co8 fl8))) co)), ((ma 13), .inl (k 1, 36982, .inr (.inl nu.1))), ((ma 15), .inl (k 1, 3690, .inr (.inl s6)))] := S
        have fd := flO_c hf8
        have hs6 := smO_s hs8 hw57.1 (Nat.le_trans hw57.2 (by have := tn_mem (L := nu.1) (b := 0) (k := i9) (by omega); omega))
        refine lv_iinc (v := nI (i9 + 1)) (lv' := [(3, .int (nI (i9 + 1))), (2, .int (nI 0)), (0, .ref h0), (1, .int (nI f9))]) hx hb d_Mo_needBody_128 hl (k := 0) rfl (show nI i9 + Int32.ofInt 1 = nI (i9 + 1) from (nI_add i9 1).trans (congrArg nI (by omega))) (by decide) rfl (fun ls hl => ?_)
        refine lv_goto (tgt := 103) hx hb d_Mo_needBody_131 (by decide) ?_
        exact ih_lp (i9 + 1) (co8 + 1) (fcN co8 fl8) s6 (by omega) (by omega) (by omega) fd hs6 _ _ (S.sub [9, 0, 1, 2, 8, 10, 11, 3, 4, 5, 6, 7] (by decide) rfl) ls (lv_sub hl [0, 1, 2, 3] rfl)
  exact lp _ 0 (co9 + ccT (wdF wd f9) tk (enF En f9) 16 (tk f9) 0) nu.2.2.1 nu.2.1 (Nat.lt_succ_self _) (by omega) rfl n1 n2 _ _ (S.sub [0, 1, 2, 3, 4, 5, 6, 7, 8, 9, 10, 11] (by decide) rfl) ls (lv_sub hl [0, 1, 2, 3] rfl)
end
section
/-- ints that come back -/
def vz (l : List Int32) : Nat → Int32 := fun j => l.getD j 0
def wz (l : List (Nat → Int64)) : Nat → Nat → Int64 := fun j => l.getD j (fun _ => 0)
theorem smO_min {co : Nat} {sm : Nat → Int64} (h : smO co sm) (hc : co ≤ 90) : ∀ i, i < 41 * co → -9223372036854775808 < (sm i).toInt := by
  intro i hi
  have h1 := h (i / 41) (by omega) (by omega)
  have h2 : l1 (sm (i / 41 * 41 + i % 41)) ≤ lz sm (i / 41) := ns_mem (f := fun k => l1 (sm (i / 41 * 41 + k))) (Nat.mod_lt _ (by decide))
  rw [show i / 41 * 41 + i % 41 = i by omega] at h2
  unfold l1 at h2
  omega
theorem smO_dt {co : Nat} {sm : Nat → Int64} (h : smO co sm) (hc : co ≤ 90) : ∀ i, i < co → dt_nm 41 (fun j => (sm (41 * i + j)).toInt) ≤ 65000 := by
  intro i hi
  rw [lz_dt]
  exact h i hi (by omega)
theorem sol_of {un rows tk9 : Nat} {F : Nat → Nat → Int} {cn rn : Nat → Nat} {T : Nat → Int} (hu : un ≤ 40) (hro : rows ≤ 90) (htk : tk9 ≤ 3) (hF : ∀ v, dt_nm (un + 2) (F v) ≤ 65535) (h : tabI un rows (rows + (tk9 + 2)) F cn rn T) : solO tk9 rows T := by
  obtain ⟨⟨⟨e, h1⟩, -, -⟩, -⟩ := h
  have h2 := sx_le h1 (B := 65535) (by decide) hF
  have h3 : 65535 ^ (un + 1 + 1) ≤ 65535 ^ 42 := Nat.pow_le_pow_right (by decide) (by omega)
  have h4 : 65535 ^ 42 < 65536 ^ 42 := Nat.pow_lt_pow_left (by decide) (by decide)
  refine ⟨htk, hro, h1.2.2.1, Nat.lt_of_le_of_lt (Nat.le_trans h2.1 h3) h4, fun i hi => ?_⟩
  have h5 := h2.2 (rows + 1 + i) (by omega) (un + 1) (by omega)
  unfold tC at h5
  rw [cj_n] at h5
  exact Nat.lt_of_le_of_lt (Nat.le_trans h5 h3) h4
theorem flO_no {un co fl : Nat} (h : flO un co fl) (h2 : fl = 0) : un ≤ 40 ∧ co ≤ 90 := by
  unfold flO at h
  rw [h2] at h
  by_cases q : 40 < un ∨ 90 < co
  · rw [if_pos q] at h; exact absurd h (by decide)
  · omega
theorem d_Mo_bound_0 : decode c_Mo_bound 0 = .ok (.aload_n 0, 1) := by decide +kernel
theorem d_Mo_bound_1 : decode c_Mo_bound 1 = .ok (.iconst 0, 1) := by decide +kernel
theorem d_Mo_bound_2 : decode c_Mo_bound 2 = .ok (.putfield 383, 3) := by decide +kernel
theorem d_Mo_bound_5 : decode c_Mo_bound 5 = .ok (.aload_n 0, 1) := by decide +kernel
theorem d_Mo_bound_6 : decode c_Mo_bound 6 = .ok (.iconst 0, 1) := by decide +kernel
theorem d_Mo_bound_7 : decode c_Mo_bound 7 = .ok (.putfield 386, 3) := by decide +kernel
theorem d_Mo_bound_10 : decode c_Mo_bound 10 = .ok (.aload_n 0, 1) := by decide +kernel
theorem d_Mo_bound_11 : decode c_Mo_bound 11 = .ok (.iload_n 1, 1) := by decide +kernel
theorem d_Mo_bound_12 : decode c_Mo_bound 12 = .ok (.invokevirtual 114, 3) := by decide +kernel
theorem d_Mo_bound_15 : decode c_Mo_bound 15 = .ok (.ifCond .eq 10, 3) := by decide +kernel
theorem d_Mo_bound_18 : decode c_Mo_bound 18 = .ok (.aload_n 0, 1) := by decide +kernel
theorem d_Mo_bound_19 : decode c_Mo_bound 19 = .ok (.invokevirtual 182, 3) := by decide +kernel
theorem d_Mo_bound_22 : decode c_Mo_bound 22 = .ok (.ifCond .ne 5, 3) := by decide +kernel
theorem d_Mo_bound_25 : decode c_Mo_bound 25 = .ok (.iconst (-1), 1) := by decide +kernel
theorem d_Mo_bound_26 : decode c_Mo_bound 26 = .ok (.ireturn, 1) := by decide +kernel
theorem d_Mo_bound_27 : decode c_Mo_bound 27 = .ok (.aload_n 0, 1) := by decide +kernel
theorem d_Mo_bound_28 : decode c_Mo_bound 28 = .ok (.iconst 0, 1) := by decide +kernel
theorem d_Mo_bound_29 : decode c_Mo_bound 29 = .ok (.putfield 192, 3) := by decide +kernel
theorem d_Mo_bound_32 : decode c_Mo_bound 32 = .ok (.aload_n 0, 1) := by decide +kernel
theorem d_Mo_bound_33 : decode c_Mo_bound 33 = .ok (.iconst 0, 1) := by decide +kernel
theorem d_Mo_bound_34 : decode c_Mo_bound 34 = .ok (.putfield 198, 3) := by decide +kernel
theorem d_Mo_bound_37 : decode c_Mo_bound 37 = .ok (.aload_n 0, 1) := by decide +kernel
theorem d_Mo_bound_38 : decode c_Mo_bound 38 = .ok (.iconst 0, 1) := by decide +kernel
theorem d_Mo_bound_39 : decode c_Mo_bound 39 = .ok (.putfield 195, 3) := by decide +kernel
theorem d_Mo_bound_42 : decode c_Mo_bound 42 = .ok (.iconst 0, 1) := by decide +kernel
theorem d_Mo_bound_43 : decode c_Mo_bound 43 = .ok (.istore_n 2, 1) := by decide +kernel
theorem d_Mo_bound_44 : decode c_Mo_bound 44 = .ok (.iload_n 2, 1) := by decide +kernel
theorem d_Mo_bound_45 : decode c_Mo_bound 45 = .ok (.aload_n 0, 1) := by decide +kernel
theorem d_Mo_bound_46 : decode c_Mo_bound 46 = .ok (.getfield 111, 3) := by decide +kernel
theorem d_Mo_bound_49 : decode c_Mo_bound 49 = .ok (.if_icmp .ge 36, 3) := by decide +kernel
theorem d_Mo_bound_52 : decode c_Mo_bound 52 = .ok (.aload_n 0, 1) := by decide +kernel
theorem d_Mo_bound_53 : decode c_Mo_bound 53 = .ok (.getfield 61, 3) := by decide +kernel
theorem d_Mo_bound_56 : decode c_Mo_bound 56 = .ok (.iload_n 2, 1) := by decide +kernel
theorem d_Mo_bound_57 : decode c_Mo_bound 57 = .ok (.aload_n 0, 1) := by decide +kernel
theorem d_Mo_bound_58 : decode c_Mo_bound 58 = .ok (.getfield 192, 3) := by decide +kernel
theorem d_Mo_bound_61 : decode c_Mo_bound 61 = .ok (.iastore, 1) := by decide +kernel
theorem d_Mo_bound_62 : decode c_Mo_bound 62 = .ok (.aload_n 0, 1) := by decide +kernel
theorem d_Mo_bound_63 : decode c_Mo_bound 63 = .ok (.dup, 1) := by decide +kernel
theorem d_Mo_bound_64 : decode c_Mo_bound 64 = .ok (.getfield 192, 3) := by decide +kernel
theorem d_Mo_bound_67 : decode c_Mo_bound 67 = .ok (.aload_n 0, 1) := by decide +kernel
theorem d_Mo_bound_68 : decode c_Mo_bound 68 = .ok (.getfield 9, 3) := by decide +kernel
theorem d_Mo_bound_71 : decode c_Mo_bound 71 = .ok (.iload_n 2, 1) := by decide +kernel
theorem d_Mo_bound_72 : decode c_Mo_bound 72 = .ok (.iaload, 1) := by decide +kernel
theorem d_Mo_bound_73 : decode c_Mo_bound 73 = .ok (.iconst 3, 1) := by decide +kernel
theorem d_Mo_bound_74 : decode c_Mo_bound 74 = .ok (.iadd, 1) := by decide +kernel
theorem d_Mo_bound_75 : decode c_Mo_bound 75 = .ok (.iadd, 1) := by decide +kernel
theorem d_Mo_bound_76 : decode c_Mo_bound 76 = .ok (.putfield 192, 3) := by decide +kernel
theorem d_Mo_bound_79 : decode c_Mo_bound 79 = .ok (.iinc 2 1, 3) := by decide +kernel
theorem d_Mo_bound_82 : decode c_Mo_bound 82 = .ok (.goto (-38), 3) := by decide +kernel
theorem d_Mo_bound_85 : decode c_Mo_bound 85 = .ok (.iconst 0, 1) := by decide +kernel
theorem d_Mo_bound_86 : decode c_Mo_bound 86 = .ok (.istore_n 2, 1) := by decide +kernel
theorem d_Mo_bound_87 : decode c_Mo_bound 87 = .ok (.iload_n 2, 1) := by decide +kernel
theorem d_Mo_bound_88 : decode c_Mo_bound 88 = .ok (.aload_n 0, 1) := by decide +kernel
theorem d_Mo_bound_89 : decode c_Mo_bound 89 = .ok (.getfield 111, 3) := by decide +kernel
theorem d_Mo_bound_92 : decode c_Mo_bound 92 = .ok (.if_icmp .ge 14, 3) := by decide +kernel
theorem d_Mo_bound_95 : decode c_Mo_bound 95 = .ok (.aload_n 0, 1) := by decide +kernel
theorem d_Mo_bound_96 : decode c_Mo_bound 96 = .ok (.iload_n 2, 1) := by decide +kernel
theorem d_Mo_bound_97 : decode c_Mo_bound 97 = .ok (.invokevirtual 389, 3) := by decide +kernel
theorem d_Mo_bound_100 : decode c_Mo_bound 100 = .ok (.iinc 2 1, 3) := by decide +kernel
theorem d_Mo_bound_103 : decode c_Mo_bound 103 = .ok (.goto (-16), 3) := by decide +kernel
theorem d_Mo_bound_106 : decode c_Mo_bound 106 = .ok (.aload_n 0, 1) := by decide +kernel
theorem d_Mo_bound_107 : decode c_Mo_bound 107 = .ok (.getfield 195, 3) := by decide +kernel
theorem d_Mo_bound_110 : decode c_Mo_bound 110 = .ok (.ifCond .eq 6, 3) := by decide +kernel
theorem d_Mo_bound_113 : decode c_Mo_bound 113 = .ok (.bipush (-3), 2) := by decide +kernel
theorem d_Mo_bound_115 : decode c_Mo_bound 115 = .ok (.ireturn, 1) := by decide +kernel
theorem d_Mo_bound_116 : decode c_Mo_bound 116 = .ok (.aload_n 0, 1) := by decide +kernel
theorem d_Mo_bound_117 : decode c_Mo_bound 117 = .ok (.iconst 1, 1) := by decide +kernel
theorem d_Mo_bound_118 : decode c_Mo_bound 118 = .ok (.putfield 386, 3) := by decide +kernel
theorem d_Mo_bound_121 : decode c_Mo_bound 121 = .ok (.aload_n 0, 1) := by decide +kernel
theorem d_Mo_bound_122 : decode c_Mo_bound 122 = .ok (.iload_n 1, 1) := by decide +kernel
theorem d_Mo_bound_123 : decode c_Mo_bound 123 = .ok (.putfield 392, 3) := by decide +kernel
theorem d_Mo_bound_126 : decode c_Mo_bound 126 = .ok (.aload_n 0, 1) := by decide +kernel
theorem d_Mo_bound_127 : decode c_Mo_bound 127 = .ok (.iload_n 1, 1) := by decide +kernel
theorem d_Mo_bound_128 : decode c_Mo_bound 128 = .ok (.invokevirtual 395, 3) := by decide +kernel
theorem d_Mo_bound_131 : decode c_Mo_bound 131 = .ok (.aload_n 0, 1) := by decide +kernel
theorem d_Mo_bound_132 : decode c_Mo_bound 132 = .ok (.invokevirtual 398, 3) := by decide +kernel
theorem d_Mo_bound_135 : decode c_Mo_bound 135 = .ok (.ifCond .ne 5, 3) := by decide +kernel
theorem d_Mo_bound_138 : decode c_Mo_bound 138 = .ok (.iconst 0, 1) := by decide +kernel
theorem d_Mo_bound_139 : decode c_Mo_bound 139 = .ok (.ireturn, 1) := by decide +kernel
theorem d_Mo_bound_140 : decode c_Mo_bound 140 = .ok (.aload_n 0, 1) := by decide +kernel
theorem d_Mo_bound_141 : decode c_Mo_bound 141 = .ok (.invokevirtual 401, 3) := by decide +kernel
theorem d_Mo_bound_144 : decode c_Mo_bound 144 = .ok (.aload_n 0, 1) := by decide +kernel
theorem d_Mo_bound_145 : decode c_Mo_bound 145 = .ok (.iconst 1, 1) := by decide +kernel
theorem d_Mo_bound_146 : decode c_Mo_bound 146 = .ok (.putfield 383, 3) := by decide +kernel
theorem d_Mo_bound_149 : decode c_Mo_bound 149 = .ok (.iconst 1, 1) := by decide +kernel
theorem d_Mo_bound_150 : decode c_Mo_bound 150 = .ok (.ireturn, 1) := by decide +kernel
end
