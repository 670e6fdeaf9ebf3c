/-- the nodes that wait, in the arrays -/
def stO : Stk → (Nat → Nat) → (Nat → Nat) → (Nat → Nat) → Prop
  | [], _, _, _ => True
  | (a, p, kn) :: st, OA, OP, OK => OA st.length = a ∧ OP st.length = p ∧ OK st.length = kn ∧ stO st OA OP OK
def stB (B : Nat) : Stk → Prop
  | [] => True
  | (a, p, _) :: st => a < 200 ∧ p ≤ B ∧ stB B st
def stT (B : Nat) : Stk → Prop
  | [] => True
  | (a, p, _) :: st => a < 200 ∧ p ≤ B + 1 ∧ stB B st
theorem stB_up {B C : Nat} (h : B ≤ C) : ∀ {st : Stk}, stB B st → stB C st
  | [], _ => trivial
  | (_, _, _) :: _, h2 => ⟨h2.1, Nat.le_trans h2.2.1 h, stB_up h h2.2.2⟩
theorem stT_of {B : Nat} : ∀ {st : Stk}, stB B st → stT B st
  | [], _ => trivial
  | (_, _, _) :: _, h2 => ⟨h2.1, by have := h2.2.1; omega, h2.2.2⟩
theorem stB_of {B : Nat} : ∀ {st : Stk}, stT B st → stB (B + 1) st
  | [], _ => trivial
  | (_, _, _) :: _, h2 => ⟨h2.1, h2.2.1, stB_up (Nat.le_succ _) h2.2.2⟩
def incS : Stk → Stk
  | [] => []
  | (a, p, kn) :: st => (a, p + 1, kn) :: st
theorem stO_congr {OA OP OK OA2 OP2 OK2 : Nat → Nat} : ∀ {st : Stk}, (∀ i, i < st.length → OA2 i = OA i ∧ OP2 i = OP i ∧ OK2 i = OK i) → stO st OA OP OK → stO st OA2 OP2 OK2
  | [], _, _ => trivial
  | (a, p, kn) :: st, h, h2 => by
    have h0 := h st.length (by simp)
    exact ⟨h0.1.trans h2.1, h0.2.1.trans h2.2.1, h0.2.2.trans h2.2.2.1, stO_congr (fun i hi => h i (by simp only [List.length_cons]; omega)) h2.2.2.2⟩
theorem ptN_le (o : Int32) : ptN o ≤ 2 := by
  unfold ptN
  split
  · omega
  · split <;> omega
theorem clo_step {W : Nat → Int32} {at9 a p kn : Nat} {st : Stk} {E : Nat → Nat} (h : p = ptN (W a)) : clo W at9 0 ((a, p, kn) :: st) E = clo W at9 0 (incS st) (va_up E a at9) := by
  rw [clo, Nat.add_zero, if_pos h]
  cases st with
  | nil => rfl
  | cons x r =>
    obtain ⟨a2, p2, k2⟩ := x
    rw [incS, clo, clo]
theorem clo_stop {W : Nat → Int32} {at9 a p kn : Nat} {st : Stk} {E : Nat → Nat} (h : ¬ p = ptN (W a)) : clo W at9 0 ((a, p, kn) :: st) E = ((a, p, kn) :: st, E) := by
  rw [clo, Nat.add_zero, if_neg h]
theorem enF_up (en : Nat → Nat) (f a v : Nat) : enF (va_up en (200 * f + a) v) f = va_up (enF en f) a v := by
  funext i
  unfold enF
  by_cases q : i = a
  · rw [q, va_up_self, va_up_self]
  · rw [va_up_ne _ _ q, va_up_ne _ _ (by omega)]
theorem d_Mo_close_0 : decode c_Mo_close 0 = .ok (.aload_n 0, 1) := by decide +kernel
theorem d_Mo_close_1 : decode c_Mo_close 1 = .ok (.getfield 118, 3) := by decide +kernel
theorem d_Mo_close_4 : decode c_Mo_close 4 = .ok (.ifCond .le 98, 3) := by decide +kernel
theorem d_Mo_close_7 : decode c_Mo_close 7 = .ok (.aload_n 0, 1) := by decide +kernel
theorem d_Mo_close_8 : decode c_Mo_close 8 = .ok (.getfield 29, 3) := by decide +kernel
theorem d_Mo_close_11 : decode c_Mo_close 11 = .ok (.aload_n 0, 1) := by decide +kernel
theorem d_Mo_close_12 : decode c_Mo_close 12 = .ok (.getfield 118, 3) := by decide +kernel
theorem d_Mo_close_15 : decode c_Mo_close 15 = .ok (.iconst 1, 1) := by decide +kernel
theorem d_Mo_close_16 : decode c_Mo_close 16 = .ok (.isub, 1) := by decide +kernel
theorem d_Mo_close_17 : decode c_Mo_close 17 = .ok (.iaload, 1) := by decide +kernel
theorem d_Mo_close_18 : decode c_Mo_close 18 = .ok (.aload_n 0, 1) := by decide +kernel
theorem d_Mo_close_19 : decode c_Mo_close 19 = .ok (.getfield 13, 3) := by decide +kernel
theorem d_Mo_close_22 : decode c_Mo_close 22 = .ok (.sipush 200, 3) := by decide +kernel
theorem d_Mo_close_25 : decode c_Mo_close 25 = .ok (.iload_n 1, 1) := by decide +kernel
theorem d_Mo_close_26 : decode c_Mo_close 26 = .ok (.imul, 1) := by decide +kernel
theorem d_Mo_close_27 : decode c_Mo_close 27 = .ok (.aload_n 0, 1) := by decide +kernel
theorem d_Mo_close_28 : decode c_Mo_close 28 = .ok (.getfield 26, 3) := by decide +kernel
theorem d_Mo_close_31 : decode c_Mo_close 31 = .ok (.aload_n 0, 1) := by decide +kernel
theorem d_Mo_close_32 : decode c_Mo_close 32 = .ok (.getfield 118, 3) := by decide +kernel
theorem d_Mo_close_35 : decode c_Mo_close 35 = .ok (.iconst 1, 1) := by decide +kernel
theorem d_Mo_close_36 : decode c_Mo_close 36 = .ok (.isub, 1) := by decide +kernel
theorem d_Mo_close_37 : decode c_Mo_close 37 = .ok (.iaload, 1) := by decide +kernel
theorem d_Mo_close_38 : decode c_Mo_close 38 = .ok (.iadd, 1) := by decide +kernel
theorem d_Mo_close_39 : decode c_Mo_close 39 = .ok (.iaload, 1) := by decide +kernel
theorem d_Mo_close_40 : decode c_Mo_close 40 = .ok (.invokestatic 137, 3) := by decide +kernel
theorem d_Mo_close_43 : decode c_Mo_close 43 = .ok (.if_icmp .ne 59, 3) := by decide +kernel
theorem d_Mo_close_46 : decode c_Mo_close 46 = .ok (.aload_n 0, 1) := by decide +kernel
theorem d_Mo_close_47 : decode c_Mo_close 47 = .ok (.dup, 1) := by decide +kernel
theorem d_Mo_close_48 : decode c_Mo_close 48 = .ok (.getfield 118, 3) := by decide +kernel
theorem d_Mo_close_51 : decode c_Mo_close 51 = .ok (.iconst 1, 1) := by decide +kernel
theorem d_Mo_close_52 : decode c_Mo_close 52 = .ok (.isub, 1) := by decide +kernel
theorem d_Mo_close_53 : decode c_Mo_close 53 = .ok (.putfield 118, 3) := by decide +kernel
theorem d_Mo_close_56 : decode c_Mo_close 56 = .ok (.aload_n 0, 1) := by decide +kernel
theorem d_Mo_close_57 : decode c_Mo_close 57 = .ok (.getfield 23, 3) := by decide +kernel
theorem d_Mo_close_60 : decode c_Mo_close 60 = .ok (.sipush 200, 3) := by decide +kernel
theorem d_Mo_close_63 : decode c_Mo_close 63 = .ok (.iload_n 1, 1) := by decide +kernel
theorem d_Mo_close_64 : decode c_Mo_close 64 = .ok (.imul, 1) := by decide +kernel
theorem d_Mo_close_65 : decode c_Mo_close 65 = .ok (.aload_n 0, 1) := by decide +kernel
theorem d_Mo_close_66 : decode c_Mo_close 66 = .ok (.getfield 26, 3) := by decide +kernel
theorem d_Mo_close_69 : decode c_Mo_close 69 = .ok (.aload_n 0, 1) := by decide +kernel
theorem d_Mo_close_70 : decode c_Mo_close 70 = .ok (.getfield 118, 3) := by decide +kernel
theorem d_Mo_close_73 : decode c_Mo_close 73 = .ok (.iaload, 1) := by decide +kernel
theorem d_Mo_close_74 : decode c_Mo_close 74 = .ok (.iadd, 1) := by decide +kernel
theorem d_Mo_close_75 : decode c_Mo_close 75 = .ok (.iload_n 2, 1) := by decide +kernel
theorem d_Mo_close_76 : decode c_Mo_close 76 = .ok (.iastore, 1) := by decide +kernel
theorem d_Mo_close_77 : decode c_Mo_close 77 = .ok (.aload_n 0, 1) := by decide +kernel
theorem d_Mo_close_78 : decode c_Mo_close 78 = .ok (.getfield 118, 3) := by decide +kernel
theorem d_Mo_close_81 : decode c_Mo_close 81 = .ok (.ifCond .le (-81), 3) := by decide +kernel
theorem d_Mo_close_84 : decode c_Mo_close 84 = .ok (.aload_n 0, 1) := by decide +kernel
theorem d_Mo_close_85 : decode c_Mo_close 85 = .ok (.getfield 29, 3) := by decide +kernel
theorem d_Mo_close_88 : decode c_Mo_close 88 = .ok (.aload_n 0, 1) := by decide +kernel
theorem d_Mo_close_89 : decode c_Mo_close 89 = .ok (.getfield 118, 3) := by decide +kernel
theorem d_Mo_close_92 : decode c_Mo_close 92 = .ok (.iconst 1, 1) := by decide +kernel
theorem d_Mo_close_93 : decode c_Mo_close 93 = .ok (.isub, 1) := by decide +kernel
theorem d_Mo_close_94 : decode c_Mo_close 94 = .ok (.dup2, 1) := by decide +kernel
theorem d_Mo_close_95 : decode c_Mo_close 95 = .ok (.iaload, 1) := by decide +kernel
theorem d_Mo_close_96 : decode c_Mo_close 96 = .ok (.iconst 1, 1) := by decide +kernel
theorem d_Mo_close_97 : decode c_Mo_close 97 = .ok (.iadd, 1) := by decide +kernel
theorem d_Mo_close_98 : decode c_Mo_close 98 = .ok (.iastore, 1) := by decide +kernel
theorem d_Mo_close_99 : decode c_Mo_close 99 = .ok (.goto (-99), 3) := by decide +kernel
theorem d_Mo_close_102 : decode c_Mo_close 102 = .ok (.aload_n 0, 1) := by decide +kernel
theorem d_Mo_close_103 : decode c_Mo_close 103 = .ok (.getfield 118, 3) := by decide +kernel
theorem d_Mo_close_106 : decode c_Mo_close 106 = .ok (.ifCond .ne 7, 3) := by decide +kernel
theorem d_Mo_close_109 : decode c_Mo_close 109 = .ok (.iconst 1, 1) := by decide +kernel
theorem d_Mo_close_110 : decode c_Mo_close 110 = .ok (.goto 4, 3) := by decide +kernel
theorem d_Mo_close_113 : decode c_Mo_close 113 = .ok (.iconst 0, 1) := by decide +kernel
theorem d_Mo_close_114 : decode c_Mo_close 114 = .ok (.ireturn, 1) := by decide +kernel
set_option maxRecDepth 100000 in
set_option maxHeartbeats 16000000 in
/-- close(f9, at9) -/
theorem g_Mo_close (l : Launch) (G : va_G) (k : Nat → ClassId) (h0 : Nat) (s0 : Nat) (f9 : Nat) (at9 : Nat) (B9 : Nat) (st : Stk) (ma : Nat → Nat) (iv : Nat → Int32) (co : Int64) (wd : Nat → Int32) (OA : Nat → Nat) (OP : Nat → Nat) (OK : Nat → Nat) (En : Nat → Nat) (hf : f9 < 4) (hat : at9 ≤ 200) (hst : stO st OA OP OK) (hsB : stB B9 st) (hB9 : B9 ≤ 100) (hln : st.length ≤ 18) : CI l y_Mo_close c_Mo_close 3 .boolean { frames := 1, cells := 0, slots := 0, locals := 20 } [.ref h0, .int (nI f9), .int (nI at9)] G k s0 [(h0, .inr (8, moL ma (va_up iv 2 (nI st.length)) co)), ((ma 1), .inl (k 0, 800, .inl wd)), ((ma 4), .inl (k 0, 20, .inl (fun i => nI (OA i)))), ((ma 5), .inl (k 0, 20, .inl (fun i => nI (OP i)))), ((ma 6), .inl (k 0, 20, .inl (fun i => nI (OK i)))), ((ma 3), .inl (k 0, 800, .inl (fun i => nI (En i))))] (fun (r : Int32) (u : (Nat → Nat) × (Nat → Nat) × Stk) => r = nI (if u.2.2 = [] then 1 else 0) ∧ clo (wdF wd f9) at9 0 st (enF En f9) = (u.2.2, enF u.2.1 f9) ∧ stO u.2.2 OA u.1 OK ∧ stB (B9 + 1) u.2.2 ∧ u.2.2.length ≤ st.length ∧ ∀ i, i < 200 * f9 ∨ 200 * f9 + 200 ≤ i → u.2.1 i = En i) (fun u => [(h0, .inr (8, moL ma (va_up iv 2 (nI u.2.2.length)) co)), ((ma 1), .inl (k 0, 800, .inl wd)), ((ma 4), .inl (k 0, 20, .inl (fun i => nI (OA i)))), ((ma 5), .inl (k 0, 20, .inl (fun i => nI (u.1 i)))), ((ma 6), .inl (k 0, 20, .inl (fun i => nI (OK i)))), ((ma 3), .inl (k 0, 800, .inl (fun i => nI (u.2.1 i))))]) 0 0 := by
  refine met_start (by decide) (Nat.le_of_ble_eq_true rfl) ?_
  intro p e s m below meth c C K hA hsz S ls hl
  generalize va_A [(h0, .inr (8, moL ma (va_up iv 2 (nI st.length)) co)), ((ma 1), .inl (k 0, 800, .inl wd)), ((ma 4), .inl (k 0, 20, .inl (fun i => nI (OA i)))), ((ma 5), .inl (k 0, 20, .inl (fun i => nI (OP i)))), ((ma 6), .inl (k 0, 20, .inl (fun i => nI (OK i)))), ((ma 3), .inl (k 0, 800, .inl (fun i => nI (En i))))] s0 = A at hA S ⊢
  have hx := C.1
  have hb := C.2.1
  have hl : lv_has ls 3 [(0, .ref h0), (1, .int (nI f9)), (2, .int (nI at9))] := hl
  have lp : ∀ d9, ∀ (st9 : Stk), ∀ (OP9 : Nat → Nat), ∀ (En9 : Nat → Nat), st9.length < d9 → (clo (wdF wd f9) at9 0 st9 (enF En9 f9) = clo (wdF wd f9) at9 0 st (enF En f9)) → (stO st9 OA OP9 OK) → (stT B9 st9) → (st9.length ≤ st.length) → (∀ i, i < 200 * f9 ∨ 200 * f9 + 200 ≤ i → En9 i = En i) → ∀ (H : Heap) (locs : List Loc), Sw G A s.heap H locs [(h0, .inr (8, moL ma (va_up iv 2 (nI st9.length)) co)), ((ma 1), .inl (k 0, 800, .inl wd)), ((ma 4), .inl (k 0, 20, .inl (fun i => nI (OA i)))), ((ma 5), .inl (k 0, 20, .inl (fun i => nI (OP9 i)))), ((ma 6), .inl (k 0, 20, .inl (fun i => nI (OK i)))), ((ma 3), .inl (k 0, 800, .inl (fun i => nI (En9 i))))] → ∀ ls : Array Slot, lv_has ls 3 [(0, .ref h0), (1, .int (nI f9)), (2, .int (nI at9))] → W p l e { frames := 1, cells := 0, slots := 0, locals := 20 } s m [Value.ref h0, Value.int (nI f9), Value.int (nI at9)].toArray below meth c H locs 0 0 (MQ below (va_Qi (fun (r : Int32) (u : (Nat → Nat) × (Nat → Nat) × Stk) => r = nI (if u.2.2 = [] then 1 else 0) ∧ clo (wdF wd f9) at9 0 st (enF En f9) = (u.2.2, enF u.2.1 f9) ∧ stO u.2.2 OA u.1 OK ∧ stB (B9 + 1) u.2.2 ∧ u.2.2.length ≤ st.length ∧ ∀ i, i < 200 * f9 ∨ 200 * f9 + 200 ≤ i → u.2.1 i = En i) (Po G k A (fun u => [(h0, .inr (8, moL ma (va_up iv 2 (nI u.2.2.length)) co)), ((ma 1), .inl (k 0, 800, .inl wd)), ((ma 4), .inl (k 0, 20, .inl (fun i => nI (OA i)))), ((ma 5), .inl (k 0, 20, .inl (fun i => nI (u.1 i)))), ((ma 6), .inl (k 0, 20, .inl (fun i => nI (OK i)))), ((ma 3), .inl (k 0, 800, .inl (fun i => nI (u.2.1 i))))])) A) [Value.ref h0, Value.int (nI f9), Value.int (nI at9)].toArray s 0 0 A) (F0 m 0 ls []) := by
    intro d9
    induction d9 with
    | zero => intro st9 OP9 En9 hm; exact absurd hm (Nat.not_lt_zero _)
    | succ d9 ih_lp =>
      intro st9 OP9 En9 hm hc9 hs9 hb9 hl9 ho9 H locs S ls hl
      refine lv_aload_n hx hb d_Mo_close_0 rfl (lv_at hl 0 rfl) ?_
      cases st9 with
      | nil =>
        have S : Sw G A s.heap H locs [(h0, .inr (8, moL ma (va_up iv 2 0) co)), ((ma 1), .inl (k 0, 800, .inl wd)), ((ma 4), .inl (k 0, 20, .inl (fun i => nI (OA i)))), ((ma 5), .inl (k 0, 20, .inl (fun i => nI (OP9 i)))), ((ma 6), .inl (k 0, 20, .inl (fun i => nI (OK i)))), ((ma 3), .inl (k 0, 800, .inl (fun i => nI (En9 i))))] := S
        refine r_get C K S 0 rfl rfl clOk_Mo 9 (by decide) wf_Mo_118 (v := .int 0) rfl d_Mo_close_1 ?_
        refine lv_if_le (tgt := 102) hx hb d_Mo_close_4 (by decide) (fun _ => ?_) (fun hq => absurd (by decide) hq)
        refine lv_aload_n hx hb d_Mo_close_102 rfl (lv_at hl 0 rfl) ?_
        refine r_get C K S 0 rfl rfl clOk_Mo 9 (by decide) wf_Mo_118 (v := .int 0) rfl d_Mo_close_103 ?_
        refine lv_if_ne (tgt := 113) hx hb d_Mo_close_106 (by decide) (fun hq => absurd (by decide) hq) (fun _ => ?_)
        refine lv_iconst (v := 1) hx hb d_Mo_close_109 (by decide) ?_
        refine lv_goto (tgt := 114) hx hb d_Mo_close_110 (by decide) ?_
        exact r_iret C K rfl (OP9, En9, []) ⟨rfl, by rw [← hc9]; rfl, trivial, trivial, Nat.zero_le _, ho9⟩ (S.sub [0, 1, 2, 3, 4, 5] (by decide) rfl) d_Mo_close_114 (Nat.le_of_ble_eq_true rfl) (Nat.le_of_ble_eq_true rfl)
      | cons x9 rs =>
        obtain ⟨a9, p9, kn9⟩ := x9
        have S : Sw G A s.heap H locs [(h0, .inr (8, moL ma (va_up iv 2 (nI (rs.length + 1))) co)), ((ma 1), .inl (k 0, 800, .inl wd)), ((ma 4), .inl (k 0, 20, .inl (fun i => nI (OA i)))), ((ma 5), .inl (k 0, 20, .inl (fun i => nI (OP9 i)))), ((ma 6), .inl (k 0, 20, .inl (fun i => nI (OK i)))), ((ma 3), .inl (k 0, 800, .inl (fun i => nI (En9 i))))] := S
        have hln9 : rs.length + 1 ≤ st.length := hl9
        obtain ⟨b1, b2, b4⟩ := hb9
        obtain ⟨t1, t2, t3, t4⟩ := hs9
        have hpt := ptN_le (wdF wd f9 a9)
        refine r_get C K S 0 rfl rfl clOk_Mo 9 (by decide) wf_Mo_118 (v := .int (nI (rs.length + 1))) rfl d_Mo_close_1 ?_
        refine z_if_le (a := (rs.length + 1)) (tgt := 102) hx hb d_Mo_close_4 (by decide) (by omega) (fun hc1 => ?_) (fun hc1 => ?_)
        · refine lv_aload_n hx hb d_Mo_close_102 rfl (lv_at hl 0 rfl) ?_
          refine r_get C K S 0 rfl rfl clOk_Mo 9 (by decide) wf_Mo_118 (v := .int (nI (rs.length + 1))) rfl d_Mo_close_103 ?_
          refine z_if_ne (a := (rs.length + 1)) (tgt := 113) hx hb d_Mo_close_106 (by decide) (by omega) (fun hc2 => ?_) (fun hc2 => False.elim (by omega))
          refine lv_iconst (v := 0) hx hb d_Mo_close_113 (by decide) ?_
          exact r_iret C K rfl (OP9, En9, (a9, p9, kn9) :: rs) ⟨rfl, by rw [← hc9]; exact clo_stop (by omega), ⟨t1, t2, t3, t4⟩, stB_of (B := B9) (st := (a9, p9, kn9) :: rs) ⟨b1, b2, b4⟩, hln9, ho9⟩ (S.sub [0, 1, 2, 3, 4, 5] (by decide) rfl) d_Mo_close_114 (Nat.le_of_ble_eq_true rfl) (Nat.le_of_ble_eq_true rfl)
        · refine lv_aload_n hx hb d_Mo_close_7 rfl (lv_at hl 0 rfl) ?_
          refine r_get C K S 0 rfl rfl clOk_Mo 7 (by decide) wf_Mo_29 (v := .ref (ma 5)) rfl d_Mo_close_8 ?_
          refine lv_aload_n hx hb d_Mo_close_11 rfl (lv_at hl 0 rfl) ?_
          refine r_get C K S 0 rfl rfl clOk_Mo 9 (by decide) wf_Mo_118 (v := .int (nI (rs.length + 1))) rfl d_Mo_close_12 ?_
          refine lv_iconst (v := 1) hx hb d_Mo_close_15 (by decide) ?_
          refine z_isub (x := nI (rs.length + 1)) (y := 1) (v := nI (rs.length + 1 - 1)) hx hb d_Mo_close_16 (pk_sub (a := (rs.length + 1)) (b := 1) (by omega)) ?_
          refine r_iald C K S 3 rfl (i := nI (rs.length + 1 - 1)) (show vp_in (nI (rs.length + 1 - 1)) _ from vp_in_nI (n := (rs.length + 1 - 1)) (by omega) (by decide)) (v := nI (OP9 (rs.length + 1 - 1))) (by rw [nI_clamp (by omega)]) d_Mo_close_17 ?_
          rw [show OP9 (rs.length + 1 - 1) = p9 from t2]
          refine lv_aload_n hx hb d_Mo_close_18 rfl (lv_at hl 0 rfl) ?_
          refine r_get C K S 0 rfl rfl clOk_Mo 2 (by decide) wf_Mo_13 (v := .ref (ma 1)) rfl d_Mo_close_19 ?_
          refine lv_sipush (v := 200) hx hb d_Mo_close_22 (by decide) ?_
          refine lv_iload_n hx hb d_Mo_close_25 rfl (lv_at hl 1 rfl) ?_
          refine z_imul (x := 200) (y := nI f9) (v := nI (200 * f9)) hx hb d_Mo_close_26 (pk_mul 200 f9) ?_
          refine lv_aload_n hx hb d_Mo_close_27 rfl (lv_at hl 0 rfl) ?_
          refine r_get C K S 0 rfl rfl clOk_Mo 6 (by decide) wf_Mo_26 (v := .ref (ma 4)) rfl d_Mo_close_28 ?_
          refine lv_aload_n hx hb d_Mo_close_31 rfl (lv_at hl 0 rfl) ?_
          refine r_get C K S 0 rfl rfl clOk_Mo 9 (by decide) wf_Mo_118 (v := .int (nI (rs.length + 1))) rfl d_Mo_close_32 ?_
          refine lv_iconst (v := 1) hx hb d_Mo_close_35 (by decide) ?_
          refine z_isub (x := nI (rs.length + 1)) (y := 1) (v := nI (rs.length + 1 - 1)) hx hb d_Mo_close_36 (pk_sub (a := (rs.length + 1)) (b := 1) (by omega)) ?_
          refine r_iald C K S 2 rfl (i := nI (rs.length + 1 - 1)) (show vp_in (nI (rs.length + 1 - 1)) _ from vp_in_nI (n := (rs.length + 1 - 1)) (by omega) (by decide)) (v := nI (OA (rs.length + 1 - 1))) (by rw [nI_clamp (by omega)]) d_Mo_close_37 ?_
          rw [show OA (rs.length + 1 - 1) = a9 from t1]
          refine z_iadd (x := nI (200 * f9)) (y := nI a9) (v := nI (200 * f9 + a9)) hx hb d_Mo_close_38 (nI_add (200 * f9) a9) ?_
          refine r_iald C K S 1 rfl (i := nI (200 * f9 + a9)) (show vp_in (nI (200 * f9 + a9)) _ from vp_in_nI (n := (200 * f9 + a9)) (by omega) (by decide)) (v := wdF wd f9 a9) (by rw [nI_clamp (by omega)]; exact (show wd (200 * f9 + a9) = wd (200 * f9 + a9) from congrArg wd (by omega))) d_Mo_close_39 ?_
          refine r_backi (wi := []) (wr := [(h0, .inr (8, moL ma (va_up iv 2 (nI (rs.length + 1))) co)), ((ma 1), .inl (k 0, 800, .inl wd)), ((ma 4), .inl (k 0, 20, .inl (fun i => nI (OA i)))), ((ma 5), .inl (k 0, 20, .inl (fun i => nI (OP9 i)))), ((ma 6), .inl (k 0, 20, .inl (fun i => nI (OK i)))), ((ma 3), .inl (k 0, 800, .inl (fun i => nI (En9 i))))]) S hA [] [0, 1, 2, 3, 4, 5] rfl rfl (by decide) (by decide) (va_runS (As := [.int (wdF wd f9 a9)]) (rest := [.int (nI p9)]) ⟨hx, hb, C.2.2.1, C.2.2.2.1, C.2.2.2.2.1⟩ (g_Mo_partsOf l G k _ (wdF wd f9 a9)) (k_stat (n := 1) C wc_Mo_partsOf rfl rfl wz_Mo wm_Mo_137 wt_Mo_partsOf (by decide +kernel) ⟨(Nat.le_of_ble_eq_true rfl), (Nat.le_of_ble_eq_true rfl)⟩) (pr_now K S [] (by decide) rfl) rfl rfl hl.1 rfl (lv_room (Nat.le_of_ble_eq_true rfl)) d_Mo_close_40 ⟨(Nat.le_of_ble_eq_true rfl), (Nat.le_of_ble_eq_true rfl)⟩) (fun r5 u3 H locs hw4 S => ?_)
          have S : Sw G A s.heap _ _ [(h0, .inr (8, moL ma (va_up iv 2 (nI (rs.length + 1))) co)), ((ma 1), .inl (k 0, 800, .inl wd)), ((ma 4), .inl (k 0, 20, .inl (fun i => nI (OA i)))), ((ma 5), .inl (k 0, 20, .inl (fun i => nI (OP9 i)))), ((ma 6), .inl (k 0, 20, .inl (fun i => nI (OK i)))), ((ma 3), .inl (k 0, 800, .inl (fun i => nI (En9 i))))] := S
          obtain ⟨hw40, hp6⟩ := hw4
          obtain rfl : r5 = nI (ptN (wdF wd f9 a9)) := hw40
          refine z_icmp_ne (a := p9) (b := (ptN (wdF wd f9 a9))) (tgt := 102) hx hb d_Mo_close_43 (by decide) (by omega) (by omega) (fun hc7 => ?_) (fun hc7 => ?_)
          · refine lv_aload_n hx hb d_Mo_close_102 rfl (lv_at hl 0 rfl) ?_
            refine r_get C K S 0 rfl rfl clOk_Mo 9 (by decide) wf_Mo_118 (v := .int (nI (rs.length + 1))) rfl d_Mo_close_103 ?_
            refine z_if_ne (a := (rs.length + 1)) (tgt := 113) hx hb d_Mo_close_106 (by decide) (by omega) (fun hc8 => ?_) (fun hc8 => False.elim (by omega))
            refine lv_iconst (v := 0) hx hb d_Mo_close_113 (by decide) ?_
            exact r_iret C K rfl (OP9, En9, (a9, p9, kn9) :: rs) ⟨rfl, by rw [← hc9]; exact clo_stop (by omega), ⟨t1, t2, t3, t4⟩, stB_of (B := B9) (st := (a9, p9, kn9) :: rs) ⟨b1, b2, b4⟩, hln9, ho9⟩ (S.sub [0, 1, 2, 3, 4, 5] (by decide) rfl) d_Mo_close_114 (Nat.le_of_ble_eq_true rfl) (Nat.le_of_ble_eq_true rfl)
          · refine lv_aload_n hx hb d_Mo_close_46 rfl (lv_at hl 0 rfl) ?_
            refine lv_dup hx hb d_Mo_close_47 rfl ?_
            refine r_get C K S 0 rfl rfl clOk_Mo 9 (by decide) wf_Mo_118 (v := .int (nI (rs.length + 1))) rfl d_Mo_close_48 ?_
            refine lv_iconst (v := 1) hx hb d_Mo_close_51 (by decide) ?_
            refine z_isub (x := nI (rs.length + 1)) (y := 1) (v := nI (rs.length + 1 - 1)) hx hb d_Mo_close_52 (pk_sub (a := (rs.length + 1)) (b := 1) (by omega)) ?_
            refine r_put C K S 0 rfl rfl clOk_Mo 9 (by decide) wf_Mo_118 rfl (ty := .int) (v := .int (nI (rs.length + 1 - 1))) (by decide +kernel) rfl rfl (Nat.le_of_ble_eq_true rfl) (fs' := moL ma (va_up iv 2 (nI (rs.length + 1 - 1))) co) (ws' := [(h0, .inr (8, moL ma (va_up iv 2 (nI (rs.length + 1 - 1))) co)), ((ma 1), .inl (k 0, 800, .inl wd)), ((ma 4), .inl (k 0, 20, .inl (fun i => nI (OA i)))), ((ma 5), .inl (k 0, 20, .inl (fun i => nI (OP9 i)))), ((ma 6), .inl (k 0, 20, .inl (fun i => nI (OK i)))), ((ma 3), .inl (k 0, 800, .inl (fun i => nI (En9 i))))]) rfl rfl d_Mo_close_53 (fun H locs S => ?_)
            have S : Sw G A s.heap H locs [(h0, .inr (8, moL ma (va_up iv 2 (nI rs.length)) co)), ((ma 1), .inl (k 0, 800, .inl wd)), ((ma 4), .inl (k 0, 20, .inl (fun i => nI (OA i)))), ((ma 5), .inl (k 0, 20, .inl (fun i => nI (OP9 i)))), ((ma 6), .inl (k 0, 20, .inl (fun i => nI (OK i)))), ((ma 3), .inl (k 0, 800, .inl (fun i => nI (En9 i))))] := S
            refine lv_aload_n hx hb d_Mo_close_56 rfl (lv_at hl 0 rfl) ?_
            refine r_get C K S 0 rfl rfl clOk_Mo 5 (by decide) wf_Mo_23 (v := .ref (ma 3)) rfl d_Mo_close_57 ?_
            refine lv_sipush (v := 200) hx hb d_Mo_close_60 (by decide) ?_
            refine lv_iload_n hx hb d_Mo_close_63 rfl (lv_at hl 1 rfl) ?_
            refine z_imul (x := 200) (y := nI f9) (v := nI (200 * f9)) hx hb d_Mo_close_64 (pk_mul 200 f9) ?_
            refine lv_aload_n hx hb d_Mo_close_65 rfl (lv_at hl 0 rfl) ?_
            refine r_get C K S 0 rfl rfl clOk_Mo 6 (by decide) wf_Mo_26 (v := .ref (ma 4)) rfl d_Mo_close_66 ?_
            refine lv_aload_n hx hb d_Mo_close_69 rfl (lv_at hl 0 rfl) ?_
            refine r_get C K S 0 rfl rfl clOk_Mo 9 (by decide) wf_Mo_118 (v := .int (nI rs.length)) rfl d_Mo_close_70 ?_
            refine r_iald C K S 2 rfl (i := nI rs.length) (show vp_in (nI rs.length) _ from vp_in_nI (n := rs.length) (by omega) (by decide)) (v := nI (OA rs.length)) (by rw [nI_clamp (by omega)]) d_Mo_close_73 ?_
            rw [show OA rs.length = a9 from t1]
            refine z_iadd (x := nI (200 * f9)) (y := nI a9) (v := nI (200 * f9 + a9)) hx hb d_Mo_close_74 (nI_add (200 * f9) a9) ?_
            refine lv_iload_n hx hb d_Mo_close_75 rfl (lv_at hl 2 rfl) ?_
            refine r_iast C K S 5 rfl (i := nI (200 * f9 + a9)) (x := nI at9) (show vp_in (nI (200 * f9 + a9)) _ from vp_in_nI (n := (200 * f9 + a9)) (by omega) (by decide)) (f' := fun i => nI (va_up En9 (200 * f9 + a9) at9 i)) (ws' := [(h0, .inr (8, moL ma (va_up iv 2 (nI rs.length)) co)), ((ma 1), .inl (k 0, 800, .inl wd)), ((ma 4), .inl (k 0, 20, .inl (fun i => nI (OA i)))), ((ma 5), .inl (k 0, 20, .inl (fun i => nI (OP9 i)))), ((ma 6), .inl (k 0, 20, .inl (fun i => nI (OK i)))), ((ma 3), .inl (k 0, 800, .inl (fun i => nI (va_up En9 (200 * f9 + a9) at9 i))))]) (show upd _ (nI (200 * f9 + a9) : Int32).toNatClampNeg (nI at9) = _ from upd_nI En9 (j := (200 * f9 + a9)) (by omega) at9) rfl d_Mo_close_76 (fun H locs S => ?_)
            have hc8 := (clo_step (W := (wdF wd f9)) (at9 := at9) (kn := kn9) (st := rs) (E := enF En9 f9) (show p9 = _ by omega)).symm.trans hc9
            rw [← enF_up] at hc8
            have ho8 : ∀ i, i < 200 * f9 ∨ 200 * f9 + 200 ≤ i → va_up En9 (200 * f9 + a9) at9 i = En i := fun i hi => by rw [va_up_ne _ _ (by omega)]; exact ho9 i hi
            cases rs with
            | nil =>
              have S : Sw G A s.heap H locs [(h0, .inr (8, moL ma (va_up iv 2 0) co)), ((ma 1), .inl (k 0, 800, .inl wd)), ((ma 4), .inl (k 0, 20, .inl (fun i => nI (OA i)))), ((ma 5), .inl (k 0, 20, .inl (fun i => nI (OP9 i)))), ((ma 6), .inl (k 0, 20, .inl (fun i => nI (OK i)))), ((ma 3), .inl (k 0, 800, .inl (fun i => nI (va_up En9 (200 * f9 + a9) at9 i))))] := S
              refine lv_aload_n hx hb d_Mo_close_77 rfl (lv_at hl 0 rfl) ?_
              refine r_get C K S 0 rfl rfl clOk_Mo 9 (by decide) wf_Mo_118 (v := .int 0) rfl d_Mo_close_78 ?_
              refine lv_if_le (tgt := 0) hx hb d_Mo_close_81 (by decide) (fun _ => ?_) (fun hq => absurd (by decide) hq)
              exact ih_lp ([]) OP9 (va_up En9 (200 * f9 + a9) at9) (by show 0 < d9; have : 0 + 1 < d9 + 1 := hm; omega) hc8 trivial trivial (Nat.zero_le _) ho8 _ _ (S.sub [0, 1, 2, 3, 4, 5] (by decide) rfl) ls (lv_sub hl [0, 1, 2] rfl)
            | cons x8 r2 =>
              obtain ⟨a8, p8, kn8⟩ := x8
              obtain ⟨d1, d2, d4⟩ := b4
              obtain ⟨v1, v2, v3, v4⟩ := t4
              have hln8 : r2.length + 1 + 1 ≤ st.length := hln9
              have S : Sw G A s.heap H locs [(h0, .inr (8, moL ma (va_up iv 2 (nI (r2.length + 1))) co)), ((ma 1), .inl (k 0, 800, .inl wd)), ((ma 4), .inl (k 0, 20, .inl (fun i => nI (OA i)))), ((ma 5), .inl (k 0, 20, .inl (fun i => nI (OP9 i)))), ((ma 6), .inl (k 0, 20, .inl (fun i => nI (OK i)))), ((ma 3), .inl (k 0, 800, .inl (fun i => nI (va_up En9 (200 * f9 + a9) at9 i))))] := S
              refine lv_aload_n hx hb d_Mo_close_77 rfl (lv_at hl 0 rfl) ?_
              refine r_get C K S 0 rfl rfl clOk_Mo 9 (by decide) wf_Mo_118 (v := .int (nI (r2.length + 1))) rfl d_Mo_close_78 ?_
              refine z_if_le (a := (r2.length + 1)) (tgt := 0) hx hb d_Mo_close_81 (by decide) (by omega) (fun hc9 => False.elim (by omega)) (fun hc9 => ?_)
              refine lv_aload_n hx hb d_Mo_close_84 rfl (lv_at hl 0 rfl) ?_
              refine r_get C K S 0 rfl rfl clOk_Mo 7 (by decide) wf_Mo_29 (v := .ref (ma 5)) rfl d_Mo_close_85 ?_
              refine lv_aload_n hx hb d_Mo_close_88 rfl (lv_at hl 0 rfl) ?_
              refine r_get C K S 0 rfl rfl clOk_Mo 9 (by decide) wf_Mo_118 (v := .int (nI (r2.length + 1))) rfl d_Mo_close_89 ?_
              refine lv_iconst (v := 1) hx hb d_Mo_close_92 (by decide) ?_
              refine z_isub (x := nI (r2.length + 1)) (y := 1) (v := nI (r2.length + 1 - 1)) hx hb d_Mo_close_93 (pk_sub (a := (r2.length + 1)) (b := 1) (by omega)) ?_
              refine lv_dup2_11 hx hb d_Mo_close_94 rfl rfl ?_
              refine r_iald C K S 3 rfl (i := nI (r2.length + 1 - 1)) (show vp_in (nI (r2.length + 1 - 1)) _ from vp_in_nI (n := (r2.length + 1 - 1)) (by omega) (by decide)) (v := nI (OP9 (r2.length + 1 - 1))) (by rw [nI_clamp (by omega)]) d_Mo_close_95 ?_
              rw [show OP9 (r2.length + 1 - 1) = p8 from v2]
              refine lv_iconst (v := 1) hx hb d_Mo_close_96 (by decide) ?_
              refine z_iadd (x := nI p8) (y := 1) (v := nI (p8 + 1)) hx hb d_Mo_close_97 (nI_add p8 1) ?_
              refine r_iast C K S 3 rfl (i := nI (r2.length + 1 - 1)) (x := nI (p8 + 1)) (show vp_in (nI (r2.length + 1 - 1)) _ from vp_in_nI (n := (r2.length + 1 - 1)) (by omega) (by decide)) (f' := fun i => nI (va_up OP9 (r2.length + 1 - 1) (p8 + 1) i)) (ws' := [(h0, .inr (8, moL ma (va_up iv 2 (nI (r2.length + 1))) co)), ((ma 1), .inl (k 0, 800, .inl wd)), ((ma 4), .inl (k 0, 20, .inl (fun i => nI (OA i)))), ((ma 5), .inl (k 0, 20, .inl (fun i => nI (va_up OP9 (r2.length + 1 - 1) (p8 + 1) i)))), ((ma 6), .inl (k 0, 20, .inl (fun i => nI (OK i)))), ((ma 3), .inl (k 0, 800, .inl (fun i => nI (va_up En9 (200 * f9 + a9) at9 i))))]) (show upd _ (nI (r2.length + 1 - 1) : Int32).toNatClampNeg (nI (p8 + 1)) = _ from upd_nI OP9 (j := (r2.length + 1 - 1)) (by omega) (p8 + 1)) rfl d_Mo_close_98 (fun H locs S => ?_)
              refine lv_goto (tgt := 0) hx hb d_Mo_close_99 (by decide) ?_
              exact ih_lp ((a8, p8 + 1, kn8) :: r2) (va_up OP9 (r2.length + 1 - 1) (p8 + 1)) (va_up En9 (200 * f9 + a9) at9) (by show r2.length + 1 < d9; have : r2.length + 1 + 1 < d9 + 1 := hm; omega) hc8 ⟨v1, va_up_self _ _ _, v3, stO_congr (fun i hi => ⟨rfl, va_up_ne _ _ (show i ≠ r2.length by omega), rfl⟩) v4⟩ ⟨d1, by omega, d4⟩ (show r2.length + 1 ≤ st.length by omega) ho8 _ _ (S.sub [0, 1, 2, 3, 4, 5] (by decide) rfl) ls (lv_sub hl [0, 1, 2] rfl)
  exact lp _ st OP En (Nat.lt_succ_self _) rfl hst (stT_of hsB) (Nat.le_refl _) (fun _ _ => rfl) _ _ (S.sub [0, 1, 2, 3, 4, 5] (by decide) rfl) ls (lv_sub hl [0, 1, 2] rfl)
