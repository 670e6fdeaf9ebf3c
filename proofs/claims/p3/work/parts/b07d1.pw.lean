set_option maxRecDepth 100000 in
set_option maxHeartbeats 4000000 in
theorem g_P_sign (l : Launch) (G : va_G) (k : Nat → ClassId) (s0 sl : Nat) (i9 : Nat) (ai9 : Nat) (zi : Int) (N9 : Nat) (st : Nat → Option wQ) (Z : Nat → Int) (V9 : Nat → Prop) (hN : N9 = 3745) (hg : gO st Z V9) (hi : i9 < 3745) (ai : atO st i9 ai9) (ezi : Z i9 = zi) (vi : V9 i9) : CG l y_Wh_sign c_Wh_sign 1 (some .int) { frames := 0, cells := 0, slots := 0, locals := 0 } [.ref ai9] G k s0 sl ([] ++ (tpl k st N9)) (fun (u : Unit) => some (.int (sgI (zi)))) (fun (u : Unit) => True) (fun (u : Unit) => ([] ++ (tpl k st N9))) (fun (u : Unit) => 0) (fun (u : Unit) => 0) 0 0 := by
  subst ezi
  obtain ⟨⟨oi, di, Li, xi, yi, gi⟩, ei, rfl⟩ := ai
  obtain ⟨ci, ri, wi⟩ := hg.get hi ei
  obtain ⟨ni, m1, m2, ki⟩ := wi vi
  obtain rfl : xi = nI ni := m1
  obtain rfl : yi = sgI (Z i9) := m2
  have ki : whO Li ni gi (Z i9) := ki
  have ri : raO Li gi := ri
  have ci : Li ≤ Mb i9 := ci
  have base := g_Wh_sign l G k oi s0 sl di Li ni gi (Z i9)
  have f9 := cg_frame (tpl k (va_up st i9 none) N9) base
  have hp0 : (twQ k (oi, di, Li, nI ni, sgI (Z i9), gi) ++ tpl k (va_up st i9 none) N9).Perm (tpl k st N9) := by
    have t9 := tp1 (show i9 < N9 by omega)  (st := st) (k := k) (oi, di, Li, nI ni, sgI (Z i9), gi)
    rw [up_id _ _ ei] at t9
    exact t9
  refine cg_imp (cg_perm (wi' := [] ++ (tpl k st N9)) hp0 f9) (fun u hu => ?_)
  refine ⟨(), trivial, rfl, hp0, Nat.le_refl _, Nat.le_refl _⟩
set_option maxRecDepth 100000 in
set_option maxHeartbeats 4000000 in
theorem g_P_isSmall (l : Launch) (G : va_G) (k : Nat → ClassId) (s0 sl : Nat) (i9 : Nat) (ai9 : Nat) (zi : Int) (N9 : Nat) (st : Nat → Option wQ) (Z : Nat → Int) (V9 : Nat → Prop) (hN : N9 = 3745) (hg : gO st Z V9) (hi : i9 < 3745) (ai : atO st i9 ai9) (ezi : Z i9 = zi) (vi : V9 i9) : CG l y_Wh_isSmall c_Wh_isSmall 1 (some .boolean) { frames := 0, cells := 0, slots := 0, locals := 0 } [.ref ai9] G k s0 sl ([] ++ (tpl k st N9)) (fun (u : Unit) => some (.int (nI (smB (zi))))) (fun (u : Unit) => True) (fun (u : Unit) => ([] ++ (tpl k st N9))) (fun (u : Unit) => 0) (fun (u : Unit) => 0) 0 0 := by
  subst ezi
  obtain ⟨⟨oi, di, Li, xi, yi, gi⟩, ei, rfl⟩ := ai
  obtain ⟨ci, ri, wi⟩ := hg.get hi ei
  obtain ⟨ni, m1, m2, ki⟩ := wi vi
  obtain rfl : xi = nI ni := m1
  obtain rfl : yi = sgI (Z i9) := m2
  have ki : whO Li ni gi (Z i9) := ki
  have ri : raO Li gi := ri
  have ci : Li ≤ Mb i9 := ci
  have e9 := sm_n ki
  have base := g_Wh_isSmall l G k oi s0 sl di Li ni gi (Z i9) ki
  have f9 := cg_frame (tpl k (va_up st i9 none) N9) base
  have hp0 : (twQ k (oi, di, Li, nI ni, sgI (Z i9), gi) ++ tpl k (va_up st i9 none) N9).Perm (tpl k st N9) := by
    have t9 := tp1 (show i9 < N9 by omega)  (st := st) (k := k) (oi, di, Li, nI ni, sgI (Z i9), gi)
    rw [up_id _ _ ei] at t9
    exact t9
  refine cg_imp (cg_perm (wi' := [] ++ (tpl k st N9)) hp0 f9) (fun u hu => ?_)
  refine ⟨(), trivial, ?_, hp0, Nat.le_refl _, Nat.le_refl _⟩
  show some (Value.int (nI (smB (Z i9)))) = some (.int (nI (if ni ≤ 1 then 1 else 0)))
  rw [e9]
set_option maxRecDepth 100000 in
set_option maxHeartbeats 4000000 in
theorem g_P_small (l : Launch) (G : va_G) (k : Nat → ClassId) (s0 sl : Nat) (i9 : Nat) (ai9 : Nat) (zi : Int) (N9 : Nat) (st : Nat → Option wQ) (Z : Nat → Int) (V9 : Nat → Prop) (hN : N9 = 3745) (hg : gO st Z V9) (hi : i9 < 3745) (ai : atO st i9 ai9) (ezi : Z i9 = zi) (vi : V9 i9) (hsm : (zi).natAbs < 2147483648) : CG l y_Wh_small c_Wh_small 1 (some .long) { frames := 0, cells := 0, slots := 0, locals := 0 } [.ref ai9] G k s0 sl ([] ++ (tpl k st N9)) (fun (u : Unit) => some (.long (lZ (zi)))) (fun (u : Unit) => True) (fun (u : Unit) => ([] ++ (tpl k st N9))) (fun (u : Unit) => 0) (fun (u : Unit) => 0) 0 0 := by
  subst ezi
  obtain ⟨⟨oi, di, Li, xi, yi, gi⟩, ei, rfl⟩ := ai
  obtain ⟨ci, ri, wi⟩ := hg.get hi ei
  obtain ⟨ni, m1, m2, ki⟩ := wi vi
  obtain rfl : xi = nI ni := m1
  obtain rfl : yi = sgI (Z i9) := m2
  have ki : whO Li ni gi (Z i9) := ki
  have ri : raO Li gi := ri
  have ci : Li ≤ Mb i9 := ci
  have base := g_Wh_small l G k oi s0 sl di Li ni gi (Z i9) ki (wh_size (m := 1) ki (by rw [Nat.pow_one]; exact hsm))
  have f9 := cg_frame (tpl k (va_up st i9 none) N9) base
  have hp0 : (twQ k (oi, di, Li, nI ni, sgI (Z i9), gi) ++ tpl k (va_up st i9 none) N9).Perm (tpl k st N9) := by
    have t9 := tp1 (show i9 < N9 by omega)  (st := st) (k := k) (oi, di, Li, nI ni, sgI (Z i9), gi)
    rw [up_id _ _ ei] at t9
    exact t9
  refine cg_imp (cg_perm (wi' := [] ++ (tpl k st N9)) hp0 f9) (fun u hu => ?_)
  refine ⟨(), trivial, rfl, hp0, Nat.le_refl _, Nat.le_refl _⟩
set_option maxRecDepth 100000 in
set_option maxHeartbeats 4000000 in
theorem g_P_compare (l : Launch) (G : va_G) (k : Nat → ClassId) (s0 sl : Nat) (i9 : Nat) (x9 : Nat) (ai9 : Nat) (ax9 : Nat) (zi : Int) (zx : Int) (N9 : Nat) (st : Nat → Option wQ) (Z : Nat → Int) (V9 : Nat → Prop) (hN : N9 = 3745) (hg : gO st Z V9) (hi : i9 < 3745) (hx : x9 < 3745) (ai : atO st i9 ai9) (ax : atO st x9 ax9) (ezi : Z i9 = zi) (ezx : Z x9 = zx) (vi : V9 i9) (vx : V9 x9) (dix : i9 ≠ x9) : CG l y_Wh_compare c_Wh_compare 2 (some .int) { frames := 2, cells := 0, slots := 0, locals := 43 } [.ref ai9, .ref ax9] G k s0 sl ([] ++ (tpl k st N9)) (fun (u : Unit) => some (.int (czI (zi) (zx)))) (fun (u : Unit) => True) (fun (u : Unit) => ([] ++ (tpl k st N9))) (fun (u : Unit) => 0) (fun (u : Unit) => 0) 0 0 := by
  subst ezi
  subst ezx
  obtain ⟨⟨oi, di, Li, xi, yi, gi⟩, ei, rfl⟩ := ai
  obtain ⟨ci, ri, wi⟩ := hg.get hi ei
  obtain ⟨ni, m1, m2, ki⟩ := wi vi
  obtain rfl : xi = nI ni := m1
  obtain rfl : yi = sgI (Z i9) := m2
  have ki : whO Li ni gi (Z i9) := ki
  have ri : raO Li gi := ri
  have ci : Li ≤ Mb i9 := ci
  obtain ⟨⟨ox, dx, Lx, xx, yx, gx⟩, ex, rfl⟩ := ax
  obtain ⟨cx, rx, wx⟩ := hg.get hx ex
  obtain ⟨nx, m1, m2, kx⟩ := wx vx
  obtain rfl : xx = nI nx := m1
  obtain rfl : yx = sgI (Z x9) := m2
  have kx : whO Lx nx gx (Z x9) := kx
  have rx : raO Lx gx := rx
  have cx : Lx ≤ Mb x9 := cx
  have base := g_Wh_compare l G k oi s0 sl di Li ni gi (Z i9) ox dx Lx nx gx (Z x9) ki kx
  have f9 := cg_frame (tpl k (va_up (va_up st i9 none) x9 none) N9) base
  have hp0 : (twQ k (oi, di, Li, nI ni, sgI (Z i9), gi) ++ (twQ k (ox, dx, Lx, nI nx, sgI (Z x9), gx) ++ tpl k (va_up (va_up st i9 none) x9 none) N9)).Perm (tpl k st N9) := by
    have t9 := tp2 (show i9 < N9 by omega) (show x9 < N9 by omega) dix (st := st) (k := k) (oi, di, Li, nI ni, sgI (Z i9), gi) (ox, dx, Lx, nI nx, sgI (Z x9), gx)
    rw [up_id _ _ ex, up_id _ _ ei] at t9
    exact t9
  refine cg_imp (cg_perm (wi' := [] ++ (tpl k st N9)) hp0 f9) (fun u hu => ?_)
  refine ⟨(), trivial, rfl, hp0, Nat.le_refl _, Nat.le_refl _⟩
set_option maxRecDepth 100000 in
set_option maxHeartbeats 4000000 in
theorem g_P_negate (l : Launch) (G : va_G) (k : Nat → ClassId) (s0 sl : Nat) (i9 : Nat) (ai9 : Nat) (zi : Int) (N9 : Nat) (st : Nat → Option wQ) (Z : Nat → Int) (V9 : Nat → Prop) (hN : N9 = 3745) (hg : gO st Z V9) (hi : i9 < 3745) (ai : atO st i9 ai9) (ezi : Z i9 = zi) (vi : V9 i9) : CG l y_Wh_negate c_Wh_negate 1 none { frames := 0, cells := 0, slots := 0, locals := 0 } [.ref ai9] G k s0 sl ([] ++ (tpl k st N9)) (fun (u : (Nat → Option wQ)) => none) (fun (u : (Nat → Option wQ)) => gO u (va_up Z i9 (-(zi))) (va_up V9 i9 True) ∧ keO st u ∧ pt u N9 ≤ pt st N9 ∧ saO st u) (fun (u : (Nat → Option wQ)) => ([] ++ (tpl k u N9))) (fun (u : (Nat → Option wQ)) => pt st N9 - pt u N9) (fun (u : (Nat → Option wQ)) => 2 * (pt st N9 - pt u N9)) 0 0 := by
  subst ezi
  obtain ⟨⟨oi, di, Li, xi, yi, gi⟩, ei, rfl⟩ := ai
  obtain ⟨ci, ri, wi⟩ := hg.get hi ei
  obtain ⟨ni, m1, m2, ki⟩ := wi vi
  obtain rfl : xi = nI ni := m1
  obtain rfl : yi = sgI (Z i9) := m2
  have ki : whO Li ni gi (Z i9) := ki
  have ri : raO Li gi := ri
  have ci : Li ≤ Mb i9 := ci
  have base := g_Wh_negate l G k oi s0 sl di Li ni gi (Z i9)
  have f9 := cg_frame (tpl k (va_up st i9 none) N9) base
  have hp0 : (twQ k (oi, di, Li, nI ni, sgI (Z i9), gi) ++ tpl k (va_up st i9 none) N9).Perm (tpl k st N9) := by
    have t9 := tp1 (show i9 < N9 by omega)  (st := st) (k := k) (oi, di, Li, nI ni, sgI (Z i9), gi)
    rw [up_id _ _ ei] at t9
    exact t9
  refine cg_imp (cg_perm (wi' := [] ++ (tpl k st N9)) hp0 f9) (fun u hu => ?_)
  have t8 := tp1 (show i9 < N9 by omega) (st := st) (k := k) (oi, di, Li, nI ni, sgI (-(Z i9)), gi)
  have g1 := gO.up (i := i9) (q := (oi, di, Li, nI ni, sgI (-(Z i9)), gi)) (z := -(Z i9)) (v := True) hg ci ri (fun _ => ⟨ni, rfl, rfl, wh_abs ki (Int.natAbs_neg _)⟩)
  have s1 : st i9 = some (oi, di, Li, nI ni, sgI (Z i9), gi) := by exact ei
  have p1 := pt_up (st := st) (i := i9) (o := some (oi, di, Li, nI ni, sgI (-(Z i9)), gi)) (by rw [s1]; exact (Nat.le_refl _)) ci N9 (by omega)
  rw [s1] at p1
  have p1 : pt (va_up st i9 (some (oi, di, Li, nI ni, sgI (-(Z i9)), gi))) N9 + (Li - Li) = pt st N9 := p1
  have q1 : keO st (va_up st i9 (some (oi, di, Li, nI ni, sgI (-(Z i9)), gi))) := ke_up s1 rfl
  have b1_ : saO st (va_up st i9 (some (oi, di, Li, nI ni, sgI (-(Z i9)), gi))) := sa_up s1 rfl
  refine ⟨(va_up st i9 (some (oi, di, Li, nI ni, sgI (-(Z i9)), gi))), ⟨?_, q1, by omega, b1_⟩, rfl, t8, ?_, ?_⟩
  · exact g1
  · show 0 ≤ _
    show _ ≤ pt st N9 - pt _ N9
    omega
  · show 0 ≤ _
    show _ ≤ 2 * (pt st N9 - pt _ N9)
    omega
set_option maxRecDepth 100000 in
set_option maxHeartbeats 4000000 in
theorem g_P_set (l : Launch) (G : va_G) (k : Nat → ClassId) (s0 sl : Nat) (v9 : Int) (i9 : Nat) (ai9 : Nat) (N9 : Nat) (st : Nat → Option wQ) (Z : Nat → Int) (V9 : Nat → Prop) (hN : N9 = 3745) (hg : gO st Z V9) (hi : i9 < 3745) (ai : atO st i9 ai9) (hz1 : -9223372036854775808 ≤ v9) (hz2 : v9 < 9223372036854775808) : CG l y_Wh_set c_Wh_set 6 none { frames := 1, cells := 0, slots := 0, locals := 23 } [.ref ai9, .long (lZ v9)] G k s0 sl ([] ++ (tpl k st N9)) (fun (u : (Nat → Option wQ)) => none) (fun (u : (Nat → Option wQ)) => gO u (va_up Z i9 v9) (va_up V9 i9 True) ∧ keO st u ∧ pt u N9 ≤ pt st N9 ∧ saO st u) (fun (u : (Nat → Option wQ)) => ([] ++ (tpl k u N9))) (fun (u : (Nat → Option wQ)) => pt st N9 - pt u N9) (fun (u : (Nat → Option wQ)) => 2 * (pt st N9 - pt u N9)) 0 0 := by
  obtain ⟨⟨oi, di, Li, xi, yi, gi⟩, ei, rfl⟩ := ai
  obtain ⟨ci, ri, wi⟩ := hg.get hi ei
  have ri : raO Li gi := ri
  have ci : Li ≤ Mb i9 := ci
  have base := g_Wh_set l G k oi s0 sl v9 di Li xi yi gi ri hz1 hz2
  have f9 := cg_frame (tpl k (va_up st i9 none) N9) base
  have hp0 : (twQ k (oi, di, Li, xi, yi, gi) ++ tpl k (va_up st i9 none) N9).Perm (tpl k st N9) := by
    have t9 := tp1 (show i9 < N9 by omega)  (st := st) (k := k) (oi, di, Li, xi, yi, gi)
    rw [up_id _ _ ei] at t9
    exact t9
  refine cg_imp (cg_perm (wi' := [] ++ (tpl k st N9)) hp0 f9) (fun u hu => ?_)
  have hu : whO Li u.1 u.2 v9 := hu
  have t8 := tp1 (show i9 < N9 by omega) (st := st) (k := k) (oi, di, Li, nI u.1, sgI v9, u.2)
  have g1 := gO.up (i := i9) (q := (oi, di, Li, nI u.1, sgI v9, u.2)) (z := v9) (v := True) hg ci (wh_ra hu) (fun _ => ⟨u.1, rfl, rfl, hu⟩)
  have s1 : st i9 = some (oi, di, Li, xi, yi, gi) := by exact ei
  have p1 := pt_up (st := st) (i := i9) (o := some (oi, di, Li, nI u.1, sgI v9, u.2)) (by rw [s1]; exact (Nat.le_refl _)) ci N9 (by omega)
  rw [s1] at p1
  have p1 : pt (va_up st i9 (some (oi, di, Li, nI u.1, sgI v9, u.2))) N9 + (Li - Li) = pt st N9 := p1
  have q1 : keO st (va_up st i9 (some (oi, di, Li, nI u.1, sgI v9, u.2))) := ke_up s1 rfl
  have b1_ : saO st (va_up st i9 (some (oi, di, Li, nI u.1, sgI v9, u.2))) := sa_up s1 rfl
  refine ⟨(va_up st i9 (some (oi, di, Li, nI u.1, sgI v9, u.2))), ⟨?_, q1, by omega, b1_⟩, rfl, t8, ?_, ?_⟩
  · exact g1
  · show 0 ≤ _
    show _ ≤ pt st N9 - pt _ N9
    omega
  · show 0 ≤ _
    show _ ≤ 2 * (pt st N9 - pt _ N9)
    omega
set_option maxRecDepth 100000 in
set_option maxHeartbeats 4000000 in
theorem g_P_copy (l : Launch) (G : va_G) (k : Nat → ClassId) (s0 sl : Nat) (i9 : Nat) (x9 : Nat) (ai9 : Nat) (ax9 : Nat) (zx : Int) (N9 : Nat) (st : Nat → Option wQ) (Z : Nat → Int) (V9 : Nat → Prop) (hN : N9 = 3745) (hg : gO st Z V9) (hi : i9 < 3745) (hx : x9 < 3745) (ai : atO st i9 ai9) (ax : atO st x9 ax9) (ezx : Z x9 = zx) (vx : V9 x9) (dix : i9 ≠ x9) (b1 : (zx).natAbs < 2147483648 ^ 49) : CG l y_Wh_copy c_Wh_copy 2 none { frames := 3, cells := Mb i9, slots := 2 * Mb i9, locals := 104 } [.ref ai9, .ref ax9] G k s0 sl ([] ++ (tpl k st N9)) (fun (u : (Nat → Option wQ)) => none) (fun (u : (Nat → Option wQ)) => gO u (va_up Z i9 zx) (va_up V9 i9 True) ∧ keO st u ∧ pt u N9 ≤ pt st N9 ∧ saO st u) (fun (u : (Nat → Option wQ)) => ([] ++ (tpl k u N9))) (fun (u : (Nat → Option wQ)) => pt st N9 - pt u N9) (fun (u : (Nat → Option wQ)) => 2 * (pt st N9 - pt u N9)) (Mb i9) (2 * Mb i9) := by
  subst ezx
  obtain ⟨⟨oi, di, Li, xi, yi, gi⟩, ei, rfl⟩ := ai
  obtain ⟨ci, ri, wi⟩ := hg.get hi ei
  have ri : raO Li gi := ri
  have ci : Li ≤ Mb i9 := ci
  obtain ⟨⟨ox, dx, Lx, xx, yx, gx⟩, ex, rfl⟩ := ax
  obtain ⟨cx, rx, wx⟩ := hg.get hx ex
  obtain ⟨nx, m1, m2, kx⟩ := wx vx
  obtain rfl : xx = nI nx := m1
  obtain rfl : yx = sgI (Z x9) := m2
  have kx : whO Lx nx gx (Z x9) := kx
  have rx : raO Lx gx := rx
  have cx : Lx ≤ Mb x9 := cx
  have hn9 := wh_size kx b1
  have hM9 : 98 ≤ Mb i9 ∧ Mb i9 ≤ 200 := by unfold Mb; split <;> omega
  have base := g_Wh_copy l G k oi s0 sl (Mb i9) di Li xi yi gi ox dx Lx nx gx (Z x9) ri kx (by omega) ci (by omega)
  have f9 := cg_frame (tpl k (va_up (va_up st i9 none) x9 none) N9) base
  have hp0 : (twQ k (oi, di, Li, xi, yi, gi) ++ (twQ k (ox, dx, Lx, nI nx, sgI (Z x9), gx) ++ tpl k (va_up (va_up st i9 none) x9 none) N9)).Perm (tpl k st N9) := by
    have t9 := tp2 (show i9 < N9 by omega) (show x9 < N9 by omega) dix (st := st) (k := k) (oi, di, Li, xi, yi, gi) (ox, dx, Lx, nI nx, sgI (Z x9), gx)
    rw [up_id _ _ ex, up_id _ _ ei] at t9
    exact t9
  refine cg_imp (cg_perm (wi' := [] ++ (tpl k st N9)) hp0 f9) (fun u hu => ?_)
  obtain ⟨hu, k1, k2⟩ : whO u.2.1 nx u.2.2 (Z x9) ∧ Li ≤ u.2.1 ∧ u.2.1 ≤ Mb i9 := hu
  have t8 := tp2 (show i9 < N9 by omega) (show x9 < N9 by omega) dix (st := st) (k := k) (oi, u.1, u.2.1, nI nx, sgI (Z x9), u.2.2) (ox, dx, Lx, nI nx, sgI (Z x9), gx)
  rw [up_id st x9 (show st x9 = some (ox, dx, Lx, nI nx, sgI (Z x9), gx) by exact ex)] at t8
  have g1 := gO.up (i := i9) (q := (oi, u.1, u.2.1, nI nx, sgI (Z x9), u.2.2)) (z := Z x9) (v := True) hg k2 (wh_ra hu) (fun _ => ⟨nx, rfl, rfl, hu⟩)
  have s1 : st i9 = some (oi, di, Li, xi, yi, gi) := by exact ei
  have p1 := pt_up (st := st) (i := i9) (o := some (oi, u.1, u.2.1, nI nx, sgI (Z x9), u.2.2)) (by rw [s1]; exact k1) k2 N9 (by omega)
  rw [s1] at p1
  have p1 : pt (va_up st i9 (some (oi, u.1, u.2.1, nI nx, sgI (Z x9), u.2.2))) N9 + (u.2.1 - Li) = pt st N9 := p1
  have q1 : keO st (va_up st i9 (some (oi, u.1, u.2.1, nI nx, sgI (Z x9), u.2.2))) := ke_up s1 rfl
  have b1_ : saO st (va_up st i9 (some (oi, u.1, u.2.1, nI nx, sgI (Z x9), u.2.2))) := sa_up s1 rfl
  refine ⟨(va_up st i9 (some (oi, u.1, u.2.1, nI nx, sgI (Z x9), u.2.2))), ⟨?_, q1, by omega, b1_⟩, rfl, t8, ?_, ?_⟩
  · exact g1
  · show u.2.1 - Li ≤ _
    show _ ≤ pt st N9 - pt _ N9
    omega
  · show 2 * (u.2.1 - Li) ≤ _
    show _ ≤ 2 * (pt st N9 - pt _ N9)
    omega
set_option maxRecDepth 100000 in
set_option maxHeartbeats 4000000 in
theorem g_P_multiply (l : Launch) (G : va_G) (k : Nat → ClassId) (s0 sl : Nat) (i9 : Nat) (x9 : Nat) (y9 : Nat) (ai9 : Nat) (ax9 : Nat) (ay9 : Nat) (zx : Int) (zy : Int) (N9 : Nat) (st : Nat → Option wQ) (Z : Nat → Int) (V9 : Nat → Prop) (hN : N9 = 3745) (hg : gO st Z V9) (hi : i9 < 3745) (hx : x9 < 3745) (hy : y9 < 3745) (ai : atO st i9 ai9) (ax : atO st x9 ax9) (ay : atO st y9 ay9) (ezx : Z x9 = zx) (ezy : Z y9 = zy) (vx : V9 x9) (vy : V9 y9) (dix : i9 ≠ x9) (diy : i9 ≠ y9) (dxy : x9 ≠ y9) (hM : 3731 ≤ i9) (b1 : (zx).natAbs < 2147483648 ^ 50) (b2 : (zy).natAbs < 2147483648 ^ 50) : CG l y_Wh_multiply c_Wh_multiply 8 none { frames := 3, cells := 200, slots := 400, locals := 104 } [.ref ai9, .ref ax9, .ref ay9] G k s0 sl ([] ++ (tpl k st N9)) (fun (u : (Nat → Option wQ)) => none) (fun (u : (Nat → Option wQ)) => gO u (va_up Z i9 (zx * zy)) (va_up V9 i9 True) ∧ keO st u ∧ pt u N9 ≤ pt st N9 ∧ saO st u) (fun (u : (Nat → Option wQ)) => ([] ++ (tpl k u N9))) (fun (u : (Nat → Option wQ)) => pt st N9 - pt u N9) (fun (u : (Nat → Option wQ)) => 2 * (pt st N9 - pt u N9)) 200 400 := by
  subst ezx
  subst ezy
  obtain ⟨⟨oi, di, Li, xi, yi, gi⟩, ei, rfl⟩ := ai
  obtain ⟨ci, ri, wi⟩ := hg.get hi ei
  have ri : raO Li gi := ri
  have ci : Li ≤ Mb i9 := ci
  obtain ⟨⟨ox, dx, Lx, xx, yx, gx⟩, ex, rfl⟩ := ax
  obtain ⟨cx, rx, wx⟩ := hg.get hx ex
  obtain ⟨nx, m1, m2, kx⟩ := wx vx
  obtain rfl : xx = nI nx := m1
  obtain rfl : yx = sgI (Z x9) := m2
  have kx : whO Lx nx gx (Z x9) := kx
  have rx : raO Lx gx := rx
  have cx : Lx ≤ Mb x9 := cx
  obtain ⟨⟨oy, dy, Ly, xy, yy, gy⟩, ey, rfl⟩ := ay
  obtain ⟨cy, ry, wy⟩ := hg.get hy ey
  obtain ⟨ny, m1, m2, ky⟩ := wy vy
  obtain rfl : xy = nI ny := m1
  obtain rfl : yy = sgI (Z y9) := m2
  have ky : whO Ly ny gy (Z y9) := ky
  have ry : raO Ly gy := ry
  have cy : Ly ≤ Mb y9 := cy
  have hn9 := wh_size kx b1
  have hn8 := wh_size ky b2
  have hM9 := (show Mb i9 = 200 by unfold Mb; rw [if_neg (by omega)])
  have base := g_Wh_multiply l G k oi s0 sl 200 di Li xi yi gi ox dx Lx nx gx (Z x9) oy dy Ly ny gy (Z y9) ri kx ky (by omega) (by omega) (by decide)
  have f9 := cg_frame (tpl k (va_up (va_up (va_up st i9 none) x9 none) y9 none) N9) base
  have hp0 : (twQ k (oi, di, Li, xi, yi, gi) ++ (twQ k (ox, dx, Lx, nI nx, sgI (Z x9), gx) ++ (twQ k (oy, dy, Ly, nI ny, sgI (Z y9), gy) ++ tpl k (va_up (va_up (va_up st i9 none) x9 none) y9 none) N9))).Perm (tpl k st N9) := by
    have t9 := tp3 (show i9 < N9 by omega) (show x9 < N9 by omega) (show y9 < N9 by omega) dix diy dxy (st := st) (k := k) (oi, di, Li, xi, yi, gi) (ox, dx, Lx, nI nx, sgI (Z x9), gx) (oy, dy, Ly, nI ny, sgI (Z y9), gy)
    rw [up_id _ _ ey, up_id _ _ ex, up_id _ _ ei] at t9
    exact t9
  refine cg_imp (cg_perm (wi' := [] ++ (tpl k st N9)) hp0 f9) (fun u hu => ?_)
  obtain ⟨hu, k1, k2⟩ : whO u.2.1 u.2.2.1 u.2.2.2 (Z x9 * Z y9) ∧ Li ≤ u.2.1 ∧ u.2.1 ≤ 200 := hu
  have t8 := tp3 (show i9 < N9 by omega) (show x9 < N9 by omega) (show y9 < N9 by omega) dix diy dxy (st := st) (k := k) (oi, u.1, u.2.1, nI u.2.2.1, sgI (Z x9 * Z y9), u.2.2.2) (ox, dx, Lx, nI nx, sgI (Z x9), gx) (oy, dy, Ly, nI ny, sgI (Z y9), gy)
  rw [up_id st y9 (show st y9 = some (oy, dy, Ly, nI ny, sgI (Z y9), gy) by exact ey)] at t8
  rw [up_id st x9 (show st x9 = some (ox, dx, Lx, nI nx, sgI (Z x9), gx) by exact ex)] at t8
  have g1 := gO.up (i := i9) (q := (oi, u.1, u.2.1, nI u.2.2.1, sgI (Z x9 * Z y9), u.2.2.2)) (z := Z x9 * Z y9) (v := True) hg (by rw [(show Mb i9 = 200 by unfold Mb; rw [if_neg (by omega)])]; exact k2) (wh_ra hu) (fun _ => ⟨u.2.2.1, rfl, rfl, hu⟩)
  have s1 : st i9 = some (oi, di, Li, xi, yi, gi) := by exact ei
  have p1 := pt_up (st := st) (i := i9) (o := some (oi, u.1, u.2.1, nI u.2.2.1, sgI (Z x9 * Z y9), u.2.2.2)) (by rw [s1]; exact k1) (by rw [(show Mb i9 = 200 by unfold Mb; rw [if_neg (by omega)])]; exact k2) N9 (by omega)
  rw [s1] at p1
  have p1 : pt (va_up st i9 (some (oi, u.1, u.2.1, nI u.2.2.1, sgI (Z x9 * Z y9), u.2.2.2))) N9 + (u.2.1 - Li) = pt st N9 := p1
  have q1 : keO st (va_up st i9 (some (oi, u.1, u.2.1, nI u.2.2.1, sgI (Z x9 * Z y9), u.2.2.2))) := ke_up s1 rfl
  have b1_ : saO st (va_up st i9 (some (oi, u.1, u.2.1, nI u.2.2.1, sgI (Z x9 * Z y9), u.2.2.2))) := sa_up s1 rfl
  refine ⟨(va_up st i9 (some (oi, u.1, u.2.1, nI u.2.2.1, sgI (Z x9 * Z y9), u.2.2.2))), ⟨?_, q1, by omega, b1_⟩, rfl, t8, ?_, ?_⟩
  · exact g1
  · show u.2.1 - Li ≤ _
    show _ ≤ pt st N9 - pt _ N9
    omega
  · show 2 * (u.2.1 - Li) ≤ _
    show _ ≤ 2 * (pt st N9 - pt _ N9)
    omega
set_option maxRecDepth 100000 in
set_option maxHeartbeats 4000000 in
theorem g_P_subtract (l : Launch) (G : va_G) (k : Nat → ClassId) (s0 sl : Nat) (i9 : Nat) (x9 : Nat) (ai9 : Nat) (ax9 : Nat) (zi : Int) (zx : Int) (N9 : Nat) (st : Nat → Option wQ) (Z : Nat → Int) (V9 : Nat → Prop) (hN : N9 = 3745) (hg : gO st Z V9) (hi : i9 < 3745) (hx : x9 < 3745) (ai : atO st i9 ai9) (ax : atO st x9 ax9) (ezi : Z i9 = zi) (ezx : Z x9 = zx) (vi : V9 i9) (vx : V9 x9) (dix : i9 ≠ x9) (hM : 3731 ≤ i9) (b1 : (zi).natAbs < 2147483648 ^ 99) (b2 : (zx).natAbs < 2147483648 ^ 99) : CG l y_Wh_subtract c_Wh_subtract 2 none { frames := 4, cells := 200, slots := 400, locals := 130 } [.ref ai9, .ref ax9] G k s0 sl ([] ++ (tpl k st N9)) (fun (u : (Nat → Option wQ)) => none) (fun (u : (Nat → Option wQ)) => gO u (va_up Z i9 (zi - zx)) (va_up V9 i9 True) ∧ keO st u ∧ pt u N9 ≤ pt st N9 ∧ saO st u) (fun (u : (Nat → Option wQ)) => ([] ++ (tpl k u N9))) (fun (u : (Nat → Option wQ)) => pt st N9 - pt u N9) (fun (u : (Nat → Option wQ)) => 2 * (pt st N9 - pt u N9)) 200 400 := by
  subst ezi
  subst ezx
  obtain ⟨⟨oi, di, Li, xi, yi, gi⟩, ei, rfl⟩ := ai
  obtain ⟨ci, ri, wi⟩ := hg.get hi ei
  obtain ⟨ni, m1, m2, ki⟩ := wi vi
  obtain rfl : xi = nI ni := m1
  obtain rfl : yi = sgI (Z i9) := m2
  have ki : whO Li ni gi (Z i9) := ki
  have ri : raO Li gi := ri
  have ci : Li ≤ Mb i9 := ci
  obtain ⟨⟨ox, dx, Lx, xx, yx, gx⟩, ex, rfl⟩ := ax
  obtain ⟨cx, rx, wx⟩ := hg.get hx ex
  obtain ⟨nx, m1, m2, kx⟩ := wx vx
  obtain rfl : xx = nI nx := m1
  obtain rfl : yx = sgI (Z x9) := m2
  have kx : whO Lx nx gx (Z x9) := kx
  have rx : raO Lx gx := rx
  have cx : Lx ≤ Mb x9 := cx
  have hn9 := wh_size ki b1
  have hn8 := wh_size kx b2
  have hM9 := (show Mb i9 = 200 by unfold Mb; rw [if_neg (by omega)])
  have base := g_Wh_subtract l G k oi s0 sl 200 di Li ni gi (Z i9) ox dx Lx nx gx (Z x9) ki kx (by omega) (by omega) (by omega) (by decide)
  have f9 := cg_frame (tpl k (va_up (va_up st i9 none) x9 none) N9) base
  have hp0 : (twQ k (oi, di, Li, nI ni, sgI (Z i9), gi) ++ (twQ k (ox, dx, Lx, nI nx, sgI (Z x9), gx) ++ tpl k (va_up (va_up st i9 none) x9 none) N9)).Perm (tpl k st N9) := by
    have t9 := tp2 (show i9 < N9 by omega) (show x9 < N9 by omega) dix (st := st) (k := k) (oi, di, Li, nI ni, sgI (Z i9), gi) (ox, dx, Lx, nI nx, sgI (Z x9), gx)
    rw [up_id _ _ ex, up_id _ _ ei] at t9
    exact t9
  refine cg_imp (cg_perm (wi' := [] ++ (tpl k st N9)) hp0 f9) (fun u hu => ?_)
  obtain ⟨hu, k1, k2⟩ : whO u.2.1 u.2.2.1 u.2.2.2 (Z i9 - Z x9) ∧ Li ≤ u.2.1 ∧ u.2.1 ≤ 200 := hu
  have t8 := tp2 (show i9 < N9 by omega) (show x9 < N9 by omega) dix (st := st) (k := k) (oi, u.1, u.2.1, nI u.2.2.1, sgI (Z i9 - Z x9), u.2.2.2) (ox, dx, Lx, nI nx, sgI (Z x9), gx)
  rw [up_id st x9 (show st x9 = some (ox, dx, Lx, nI nx, sgI (Z x9), gx) by exact ex)] at t8
  have g1 := gO.up (i := i9) (q := (oi, u.1, u.2.1, nI u.2.2.1, sgI (Z i9 - Z x9), u.2.2.2)) (z := Z i9 - Z x9) (v := True) hg (by rw [(show Mb i9 = 200 by unfold Mb; rw [if_neg (by omega)])]; exact k2) (wh_ra hu) (fun _ => ⟨u.2.2.1, rfl, rfl, hu⟩)
  have s1 : st i9 = some (oi, di, Li, nI ni, sgI (Z i9), gi) := by exact ei
  have p1 := pt_up (st := st) (i := i9) (o := some (oi, u.1, u.2.1, nI u.2.2.1, sgI (Z i9 - Z x9), u.2.2.2)) (by rw [s1]; exact k1) (by rw [(show Mb i9 = 200 by unfold Mb; rw [if_neg (by omega)])]; exact k2) N9 (by omega)
  rw [s1] at p1
  have p1 : pt (va_up st i9 (some (oi, u.1, u.2.1, nI u.2.2.1, sgI (Z i9 - Z x9), u.2.2.2))) N9 + (u.2.1 - Li) = pt st N9 := p1
  have q1 : keO st (va_up st i9 (some (oi, u.1, u.2.1, nI u.2.2.1, sgI (Z i9 - Z x9), u.2.2.2))) := ke_up s1 rfl
  have b1_ : saO st (va_up st i9 (some (oi, u.1, u.2.1, nI u.2.2.1, sgI (Z i9 - Z x9), u.2.2.2))) := sa_up s1 rfl
  refine ⟨(va_up st i9 (some (oi, u.1, u.2.1, nI u.2.2.1, sgI (Z i9 - Z x9), u.2.2.2))), ⟨?_, q1, by omega, b1_⟩, rfl, t8, ?_, ?_⟩
  · exact g1
  · show u.2.1 - Li ≤ _
    show _ ≤ pt st N9 - pt _ N9
    omega
  · show 2 * (u.2.1 - Li) ≤ _
    show _ ≤ 2 * (pt st N9 - pt _ N9)
    omega
set_option maxRecDepth 100000 in
set_option maxHeartbeats 4000000 in
theorem g_P_divide (l : Launch) (G : va_G) (k : Nat → ClassId) (s0 sl : Nat) (i9 : Nat) (x9 : Nat) (y9 : Nat) (w9 : Nat) (ai9 : Nat) (ax9 : Nat) (ay9 : Nat) (aw9 : Nat) (zi : Int) (zx : Int) (N9 : Nat) (st : Nat → Option wQ) (Z : Nat → Int) (V9 : Nat → Prop) (hN : N9 = 3745) (hg : gO st Z V9) (hi : i9 < 3745) (hx : x9 < 3745) (hy : y9 < 3745) (hw : w9 < 3745) (ai : atO st i9 ai9) (ax : atO st x9 ax9) (ay : atO st y9 ay9) (aw : atO st w9 aw9) (ezi : Z i9 = zi) (ezx : Z x9 = zx) (vi : V9 i9) (vx : V9 x9) (dix : i9 ≠ x9) (diy : i9 ≠ y9) (diw : i9 ≠ w9) (dxy : x9 ≠ y9) (dxw : x9 ≠ w9) (dyw : y9 ≠ w9) (hM : 3731 ≤ i9) (hMy : 3731 ≤ y9) (hMw : 3731 ≤ w9) (b1 : (zi).natAbs < 2147483648 ^ 99) (b2 : (zx).natAbs < 2147483648 ^ 99) : CG l y_Wh_divide c_Wh_divide 9 none { frames := 4, cells := 400, slots := 800, locals := 129 } [.ref ai9, .ref ax9, .ref ay9, .ref aw9] G k s0 sl ([] ++ (tpl k st N9)) (fun (u : (Nat → Option wQ)) => none) (fun (u : (Nat → Option wQ)) => gO u (va_up Z i9 (zi.tdiv zx)) (va_up (va_up (va_up V9 w9 False) y9 False) i9 True) ∧ keO st u ∧ pt u N9 ≤ pt st N9 ∧ saO st u) (fun (u : (Nat → Option wQ)) => ([] ++ (tpl k u N9))) (fun (u : (Nat → Option wQ)) => pt st N9 - pt u N9) (fun (u : (Nat → Option wQ)) => 2 * (pt st N9 - pt u N9)) 400 800 := by
  subst ezi
  subst ezx
  obtain ⟨⟨oi, di, Li, xi, yi, gi⟩, ei, rfl⟩ := ai
  obtain ⟨ci, ri, wi⟩ := hg.get hi ei
  obtain ⟨ni, m1, m2, ki⟩ := wi vi
  obtain rfl : xi = nI ni := m1
  obtain rfl : yi = sgI (Z i9) := m2
  have ki : whO Li ni gi (Z i9) := ki
  have ri : raO Li gi := ri
  have ci : Li ≤ Mb i9 := ci
  obtain ⟨⟨ox, dx, Lx, xx, yx, gx⟩, ex, rfl⟩ := ax
  obtain ⟨cx, rx, wx⟩ := hg.get hx ex
  obtain ⟨nx, m1, m2, kx⟩ := wx vx
  obtain rfl : xx = nI nx := m1
  obtain rfl : yx = sgI (Z x9) := m2
  have kx : whO Lx nx gx (Z x9) := kx
  have rx : raO Lx gx := rx
  have cx : Lx ≤ Mb x9 := cx
  obtain ⟨⟨oy, dy, Ly, xy, yy, gy⟩, ey, rfl⟩ := ay
  obtain ⟨cy, ry, wy⟩ := hg.get hy ey
  have ry : raO Ly gy := ry
  have cy : Ly ≤ Mb y9 := cy
  obtain ⟨⟨ow, dw, Lw, xw, yw, gw⟩, ew, rfl⟩ := aw
  obtain ⟨cw, rw_, ww⟩ := hg.get hw ew
  have rw_ : raO Lw gw := rw_
  have cw : Lw ≤ Mb w9 := cw
  have hn9 := wh_size ki b1
  have hn8 := wh_size kx b2
  have hM8 := (show Mb y9 = 200 by unfold Mb; rw [if_neg (by omega)])
  have hM7 := (show Mb w9 = 200 by unfold Mb; rw [if_neg (by omega)])
  have rw9 : raO Lw gw := rw_
  have base := g_Wh_divide l G k oi s0 sl 200 di Li ni gi (Z i9) ox dx Lx nx gx (Z x9) oy dy Ly xy yy gy ow dw Lw xw yw gw ki kx ry rw9 (by omega) (by omega) (by omega) (by omega) (by decide)
  have f9 := cg_frame (tpl k (va_up (va_up (va_up (va_up st i9 none) x9 none) y9 none) w9 none) N9) base
  have hp0 : (twQ k (oi, di, Li, nI ni, sgI (Z i9), gi) ++ (twQ k (ox, dx, Lx, nI nx, sgI (Z x9), gx) ++ (twQ k (oy, dy, Ly, xy, yy, gy) ++ (twQ k (ow, dw, Lw, xw, yw, gw) ++ tpl k (va_up (va_up (va_up (va_up st i9 none) x9 none) y9 none) w9 none) N9)))).Perm (tpl k st N9) := by
    have t9 := tp4 (show i9 < N9 by omega) (show x9 < N9 by omega) (show y9 < N9 by omega) (show w9 < N9 by omega) dix diy diw dxy dxw dyw (st := st) (k := k) (oi, di, Li, nI ni, sgI (Z i9), gi) (ox, dx, Lx, nI nx, sgI (Z x9), gx) (oy, dy, Ly, xy, yy, gy) (ow, dw, Lw, xw, yw, gw)
    rw [up_id _ _ ew, up_id _ _ ey, up_id _ _ ex, up_id _ _ ei] at t9
    exact t9
  refine cg_imp (cg_perm (wi' := [] ++ (tpl k st N9)) hp0 f9) (fun u hu => ?_)
  obtain ⟨hu, k1, k2, k3, k4, k5, k6⟩ : whO Li u.1 u.2.1 ((Z i9).tdiv (Z x9)) ∧ raO u.2.2.1.2.1 u.2.2.1.2.2 ∧ Ly ≤ u.2.2.1.2.1 ∧ u.2.2.1.2.1 ≤ 200 ∧ raO u.2.2.2.2.1 u.2.2.2.2.2 ∧ Lw ≤ u.2.2.2.2.1 ∧ u.2.2.2.2.1 ≤ 200 := hu
  have t8 := tp4 (show i9 < N9 by omega) (show x9 < N9 by omega) (show y9 < N9 by omega) (show w9 < N9 by omega) dix diy diw dxy dxw dyw (st := st) (k := k) (oi, di, Li, nI u.1, sgI ((Z i9).tdiv (Z x9)), u.2.1) (ox, dx, Lx, nI nx, sgI (Z x9), gx) (oy, u.2.2.1.1, u.2.2.1.2.1, xy, yy, u.2.2.1.2.2) (ow, u.2.2.2.1, u.2.2.2.2.1, xw, yw, u.2.2.2.2.2)
  rw [up_id (va_up (va_up st w9 (some (ow, u.2.2.2.1, u.2.2.2.2.1, xw, yw, u.2.2.2.2.2))) y9 (some (oy, u.2.2.1.1, u.2.2.1.2.1, xy, yy, u.2.2.1.2.2))) x9 (show (va_up (va_up st w9 (some (ow, u.2.2.2.1, u.2.2.2.2.1, xw, yw, u.2.2.2.2.2))) y9 (some (oy, u.2.2.1.1, u.2.2.1.2.1, xy, yy, u.2.2.1.2.2))) x9 = some (ox, dx, Lx, nI nx, sgI (Z x9), gx) by rw [va_up_ne _ _ dxy, va_up_ne _ _ dxw]; exact ex)] at t8
  have g1 := gO.up (i := w9) (q := (ow, u.2.2.2.1, u.2.2.2.2.1, xw, yw, u.2.2.2.2.2)) (z := Z w9) (v := False) hg (by rw [(show Mb w9 = 200 by unfold Mb; rw [if_neg (by omega)])]; exact k6) k4 (fun q => q.elim)
  have s1 : st w9 = some (ow, dw, Lw, xw, yw, gw) := by exact ew
  have p1 := pt_up (st := st) (i := w9) (o := some (ow, u.2.2.2.1, u.2.2.2.2.1, xw, yw, u.2.2.2.2.2)) (by rw [s1]; exact k5) (by rw [(show Mb w9 = 200 by unfold Mb; rw [if_neg (by omega)])]; exact k6) N9 (by omega)
  rw [s1] at p1
  have p1 : pt (va_up st w9 (some (ow, u.2.2.2.1, u.2.2.2.2.1, xw, yw, u.2.2.2.2.2))) N9 + (u.2.2.2.2.1 - Lw) = pt st N9 := p1
  have q1 : keO st (va_up st w9 (some (ow, u.2.2.2.1, u.2.2.2.2.1, xw, yw, u.2.2.2.2.2))) := ke_up s1 rfl
  have b1_ : saO st (va_up st w9 (some (ow, u.2.2.2.1, u.2.2.2.2.1, xw, yw, u.2.2.2.2.2))) := sa_up s1 rfl
  have g2 := gO.up (i := y9) (q := (oy, u.2.2.1.1, u.2.2.1.2.1, xy, yy, u.2.2.1.2.2)) (z := Z y9) (v := False) g1 (by rw [(show Mb y9 = 200 by unfold Mb; rw [if_neg (by omega)])]; exact k3) k1 (fun q => q.elim)
  have s2 : (va_up st w9 (some (ow, u.2.2.2.1, u.2.2.2.2.1, xw, yw, u.2.2.2.2.2))) y9 = some (oy, dy, Ly, xy, yy, gy) := by rw [va_up_ne _ _ (show y9 ≠ w9 by first | assumption | exact Ne.symm (by assumption))]; exact ey
  have p2 := pt_up (st := (va_up st w9 (some (ow, u.2.2.2.1, u.2.2.2.2.1, xw, yw, u.2.2.2.2.2)))) (i := y9) (o := some (oy, u.2.2.1.1, u.2.2.1.2.1, xy, yy, u.2.2.1.2.2)) (by rw [s2]; exact k2) (by rw [(show Mb y9 = 200 by unfold Mb; rw [if_neg (by omega)])]; exact k3) N9 (by omega)
  rw [s2] at p2
  have p2 : pt (va_up (va_up st w9 (some (ow, u.2.2.2.1, u.2.2.2.2.1, xw, yw, u.2.2.2.2.2))) y9 (some (oy, u.2.2.1.1, u.2.2.1.2.1, xy, yy, u.2.2.1.2.2))) N9 + (u.2.2.1.2.1 - Ly) = pt (va_up st w9 (some (ow, u.2.2.2.1, u.2.2.2.2.1, xw, yw, u.2.2.2.2.2))) N9 := p2
  have q2 : keO (va_up st w9 (some (ow, u.2.2.2.1, u.2.2.2.2.1, xw, yw, u.2.2.2.2.2))) (va_up (va_up st w9 (some (ow, u.2.2.2.1, u.2.2.2.2.1, xw, yw, u.2.2.2.2.2))) y9 (some (oy, u.2.2.1.1, u.2.2.1.2.1, xy, yy, u.2.2.1.2.2))) := ke_up s2 rfl
  have b2_ : saO (va_up st w9 (some (ow, u.2.2.2.1, u.2.2.2.2.1, xw, yw, u.2.2.2.2.2))) (va_up (va_up st w9 (some (ow, u.2.2.2.1, u.2.2.2.2.1, xw, yw, u.2.2.2.2.2))) y9 (some (oy, u.2.2.1.1, u.2.2.1.2.1, xy, yy, u.2.2.1.2.2))) := sa_up s2 rfl
  have g3 := gO.up (i := i9) (q := (oi, di, Li, nI u.1, sgI ((Z i9).tdiv (Z x9)), u.2.1)) (z := (Z i9).tdiv (Z x9)) (v := True) g2 ci (wh_ra hu) (fun _ => ⟨u.1, rfl, rfl, hu⟩)
  have s3 : (va_up (va_up st w9 (some (ow, u.2.2.2.1, u.2.2.2.2.1, xw, yw, u.2.2.2.2.2))) y9 (some (oy, u.2.2.1.1, u.2.2.1.2.1, xy, yy, u.2.2.1.2.2))) i9 = some (oi, di, Li, nI ni, sgI (Z i9), gi) := by rw [va_up_ne _ _ (show i9 ≠ y9 by first | assumption | exact Ne.symm (by assumption)), va_up_ne _ _ (show i9 ≠ w9 by first | assumption | exact Ne.symm (by assumption))]; exact ei
  have p3 := pt_up (st := (va_up (va_up st w9 (some (ow, u.2.2.2.1, u.2.2.2.2.1, xw, yw, u.2.2.2.2.2))) y9 (some (oy, u.2.2.1.1, u.2.2.1.2.1, xy, yy, u.2.2.1.2.2)))) (i := i9) (o := some (oi, di, Li, nI u.1, sgI ((Z i9).tdiv (Z x9)), u.2.1)) (by rw [s3]; exact (Nat.le_refl _)) ci N9 (by omega)
  rw [s3] at p3
  have p3 : pt (va_up (va_up (va_up st w9 (some (ow, u.2.2.2.1, u.2.2.2.2.1, xw, yw, u.2.2.2.2.2))) y9 (some (oy, u.2.2.1.1, u.2.2.1.2.1, xy, yy, u.2.2.1.2.2))) i9 (some (oi, di, Li, nI u.1, sgI ((Z i9).tdiv (Z x9)), u.2.1))) N9 + (Li - Li) = pt (va_up (va_up st w9 (some (ow, u.2.2.2.1, u.2.2.2.2.1, xw, yw, u.2.2.2.2.2))) y9 (some (oy, u.2.2.1.1, u.2.2.1.2.1, xy, yy, u.2.2.1.2.2))) N9 := p3
  have q3 : keO (va_up (va_up st w9 (some (ow, u.2.2.2.1, u.2.2.2.2.1, xw, yw, u.2.2.2.2.2))) y9 (some (oy, u.2.2.1.1, u.2.2.1.2.1, xy, yy, u.2.2.1.2.2))) (va_up (va_up (va_up st w9 (some (ow, u.2.2.2.1, u.2.2.2.2.1, xw, yw, u.2.2.2.2.2))) y9 (some (oy, u.2.2.1.1, u.2.2.1.2.1, xy, yy, u.2.2.1.2.2))) i9 (some (oi, di, Li, nI u.1, sgI ((Z i9).tdiv (Z x9)), u.2.1))) := ke_up s3 rfl
  have b3_ : saO (va_up (va_up st w9 (some (ow, u.2.2.2.1, u.2.2.2.2.1, xw, yw, u.2.2.2.2.2))) y9 (some (oy, u.2.2.1.1, u.2.2.1.2.1, xy, yy, u.2.2.1.2.2))) (va_up (va_up (va_up st w9 (some (ow, u.2.2.2.1, u.2.2.2.2.1, xw, yw, u.2.2.2.2.2))) y9 (some (oy, u.2.2.1.1, u.2.2.1.2.1, xy, yy, u.2.2.1.2.2))) i9 (some (oi, di, Li, nI u.1, sgI ((Z i9).tdiv (Z x9)), u.2.1))) := sa_up s3 rfl
  refine ⟨(va_up (va_up (va_up st w9 (some (ow, u.2.2.2.1, u.2.2.2.2.1, xw, yw, u.2.2.2.2.2))) y9 (some (oy, u.2.2.1.1, u.2.2.1.2.1, xy, yy, u.2.2.1.2.2))) i9 (some (oi, di, Li, nI u.1, sgI ((Z i9).tdiv (Z x9)), u.2.1))), ⟨?_, ((q1.tr q2).tr q3), by omega, (saO.tr (saO.tr b1_ b2_) b3_)⟩, rfl, t8, ?_, ?_⟩
  · rw [up_id Z w9 rfl, up_id Z y9 rfl] at g3
    exact g3
  · show (u.2.2.1.2.1 - Ly) + (u.2.2.2.2.1 - Lw) ≤ pt st N9 - pt _ N9
    omega
  · show 2 * (u.2.2.1.2.1 - Ly) + 2 * (u.2.2.2.2.1 - Lw) ≤ 2 * (pt st N9 - pt _ N9)
    omega
theorem g_P_lowest (l : Launch) (G : va_G) (k : Nat → ClassId) (s0 sl : Nat) (i9 : Nat) (ai9 : Nat) (N9 : Nat) (st : Nat → Option wQ) (Z : Nat → Int) (V9 : Nat → Prop) (hN : N9 = 3745) (hg : gO st Z V9) (hi : i9 < 3745) (ai : atO st i9 ai9) (vi : V9 i9) : CG l y_Wh_lowest c_Wh_lowest 4 (some .long) { frames := 0, cells := 0, slots := 0, locals := 0 } [.ref ai9] G k s0 sl ([] ++ (tpl k st N9)) (fun (u : Int64) => some (.long u)) (fun (u : Int64) => True) (fun (u : Int64) => ([] ++ (tpl k st N9))) (fun (u : Int64) => 0) (fun (u : Int64) => 0) 0 0 := by
  obtain ⟨⟨oi, di, Li, xi, yi, gi⟩, ei, rfl⟩ := ai
  obtain ⟨ci, ri, wi⟩ := hg.get hi ei
  obtain ⟨ni, m1, m2, ki⟩ := wi vi
  obtain rfl : xi = nI ni := m1
  obtain rfl : yi = sgI (Z i9) := m2
  have base := g_Wh_lowest l G k oi s0 sl di Li ni gi (Z i9) ki
  have f9 := cg_frame (tpl k (va_up st i9 none) N9) base
  have hp0 : (twQ k (oi, di, Li, nI ni, sgI (Z i9), gi) ++ tpl k (va_up st i9 none) N9).Perm (tpl k st N9) := by
    have t9 := tp1 (show i9 < N9 by omega) (st := st) (k := k) (oi, di, Li, nI ni, sgI (Z i9), gi)
    rw [up_id _ _ ei] at t9
    exact t9
  exact cg_imp (cg_perm (wi' := [] ++ (tpl k st N9)) hp0 f9) (fun u hu => ⟨u, trivial, rfl, hp0, Nat.le_refl _, Nat.le_refl _⟩)
