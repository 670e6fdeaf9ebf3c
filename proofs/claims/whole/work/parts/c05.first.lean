theorem pt_le {st : Nat → Option wQ} : ∀ n, pt st n ≤ 98 * n + 102 * (n - 3731)
  | 0 => Nat.le_refl _
  | n + 1 => by
    have h := pt_le (st := st) n
    rw [pt]
    have h2 : Mb n - cpO (st n) ≤ Mb n := Nat.sub_le _ _
    have h3 : Mb n = if n < 3731 then 98 else 200 := rfl
    by_cases q : n < 3731
    · rw [if_pos q] at h3; omega
    · rw [if_neg q] at h3; omega
theorem stU_some {u : Nat → Nat} {i : Nat} (h1 : 3731 ≤ i) : ∃ a b, stU u i = some (a, b, 3, 0, 0, fun _ => 0) := by
  unfold stU
  rw [if_neg (by omega)]
  by_cases q : i < 3736
  · rw [if_pos q]; exact ⟨_, _, rfl⟩
  · rw [if_neg q]
    by_cases w : i < 3740
    · rw [if_pos w]; exact ⟨_, _, rfl⟩
    · rw [if_neg w]; exact ⟨_, _, rfl⟩
theorem hO_first {u : Nat → Nat} : hO (stU u) (fun _ => 0) := by
  refine ⟨fun i hi => ?_, fun i _ _ => Nat.pow_pos (by decide)⟩
  by_cases q : i < 3731
  · exact Or.inl ⟨by unfold stU; rw [if_pos q], q, rfl⟩
  · obtain ⟨a, b, e⟩ := stU_some (u := u) (i := i) (by omega)
    refine Or.inr ⟨_, e, ?_, ⟨show (3 : Nat) ≤ 3 from by decide, show (3 : Nat) ≤ 400 from by decide, fun _ => show (0 : Nat) < 2147483648 from by decide⟩, fun _ => ⟨0, rfl, rfl, wh_new⟩⟩
    show 3 ≤ Mb i
    unfold Mb
    split <;> decide
theorem at_first {u : Nat → Nat} {i a b : Nat} (h : stU u i = some (a, b, 3, 0, 0, fun _ => 0)) : atO (stU u) i a := ⟨_, h, rfl⟩
theorem lp_first {u : Nat → Nat} : lpO ((u 75) :: (u 74) :: (((([] ++ mz_rows (u 73) 90) ++ mz_rows (u 76) 306) ++ mz_rows (u 77) 17) ++ mz_rows (u 78) 17)) (fun j => u 76 + 1 + j) (fun j => u 73 + 1 + j) (fun j => u 77 + 1 + j) (fun j => u 78 + 1 + j) (u 74) (u 75) := by
  refine ⟨fun j h => ?_, fun j h => ?_, fun j h => ?_, fun j h => ?_, by simp, by simp⟩
  · have := mz_mem (q := u 76) h; simp [this]
  · have := mz_mem (q := u 73) h; simp [this]
  · have := mz_mem (q := u 77) h; simp [this]
  · have := mz_mem (q := u 78) h; simp [this]

theorem at_one {u : Nat → Nat} {i a b : Nat} (h : stU u i = some (a, b, 3, 0, 0, fun _ => 0)) : atO (stU u) i a := ⟨_, h, rfl⟩
theorem at_four {u : Nat → Nat} : ∀ j, j < 4 → atO (stU u) (3736 + j) (u (29 + 2 * j)) := by
  intro j h
  refine at_one (b := u (30 + 2 * j)) ?_
  unfold stU
  rw [if_neg (by omega), if_neg (by omega), if_pos (by omega), show 3736 + j - 3736 = j by omega]
set_option maxRecDepth 100000 in
set_option maxHeartbeats 4000000 in
theorem cw_first {k : Nat → ClassId} {h0 N9 : Nat} {u : Nat → Nat} (hN : N9 = 3745) : cwO k h0 0 (fun _ => 0) (fun _ => 0) (fun _ => 0) (-2) 0 (-2) 0 none (pt (stU u) N9) (([(h0, .inr (0, [.ref (u 0), .ref (u 65), .ref (u 66), .ref (u 71), .ref (u 1), .ref (u 17), .int 0, .int (-2), .int 0])), ((u 0), .inl (k 3, 4, .inr (.inr (.inr (.inr (fun g => some (u (37 + 7 * g)))))))), ((u 65), .inr (5, [.ref (u 0), .ref (u 37), .int 0, .int 0, .int (-2)])), ((u 66), .inr (6, [.ref (u 0), .ref (u 67), .ref (u 68), .ref (u 69), .ref (u 70), .int 0, .int 0, .int 0, .int 0, .int 0, .long 0, .int (-2)])), ((u 67), .inl (k 0, 60, .inl (fun _ => 0))), ((u 68), .inl (k 0, 1080, .inl (fun _ => 0))), ((u 69), .inl (k 0, 960, .inl (fun _ => 0))), ((u 70), .inl (k 0, 60, .inl (fun _ => 0))), ((u 37), .inr (4, [.ref (u 38), .ref (u 39), .ref (u 40), .ref (u 41), .ref (u 42), .ref (u 43), .int 0, .int 0, .int 0])), ((u 38), .inl (k 0, 200, .inl (fun _ => 0))), ((u 39), .inl (k 0, 40, .inl (fun _ => 0))), ((u 40), .inl (k 0, 40, .inl (fun _ => 0))), ((u 41), .inl (k 0, 40, .inl (fun _ => 0))), ((u 42), .inl (k 0, 40, .inl (fun _ => 0))), ((u 43), .inl (k 0, 40, .inl (fun _ => 0))), ((u 44), .inr (4, [.ref (u 45), .ref (u 46), .ref (u 47), .ref (u 48), .ref (u 49), .ref (u 50), .int 0, .int 0, .int 0])), ((u 45), .inl (k 0, 200, .inl (fun _ => 0))), ((u 46), .inl (k 0, 40, .inl (fun _ => 0))), ((u 47), .inl (k 0, 40, .inl (fun _ => 0))), ((u 48), .inl (k 0, 40, .inl (fun _ => 0))), ((u 49), .inl (k 0, 40, .inl (fun _ => 0))), ((u 50), .inl (k 0, 40, .inl (fun _ => 0))), ((u 51), .inr (4, [.ref (u 52), .ref (u 53), .ref (u 54), .ref (u 55), .ref (u 56), .ref (u 57), .int 0, .int 0, .int 0])), ((u 52), .inl (k 0, 200, .inl (fun _ => 0))), ((u 53), .inl (k 0, 40, .inl (fun _ => 0))), ((u 54), .inl (k 0, 40, .inl (fun _ => 0))), ((u 55), .inl (k 0, 40, .inl (fun _ => 0))), ((u 56), .inl (k 0, 40, .inl (fun _ => 0))), ((u 57), .inl (k 0, 40, .inl (fun _ => 0))), ((u 58), .inr (4, [.ref (u 59), .ref (u 60), .ref (u 61), .ref (u 62), .ref (u 63), .ref (u 64), .int 0, .int 0, .int 0])), ((u 59), .inl (k 0, 200, .inl (fun _ => 0))), ((u 60), .inl (k 0, 40, .inl (fun _ => 0))), ((u 61), .inl (k 0, 40, .inl (fun _ => 0))), ((u 62), .inl (k 0, 40, .inl (fun _ => 0))), ((u 63), .inl (k 0, 40, .inl (fun _ => 0))), ((u 64), .inl (k 0, 40, .inl (fun _ => 0))), ((u 71), .inr (7, [.ref (u 0), .ref (u 72), .ref (u 73), .ref (u 74), .ref (u 75), .ref (u 76), .ref (u 77), .ref (u 78), .ref (u 37), .int 0, .int 0, .int 0])), ((u 72), .inl (k 0, 4, .inl (fun _ => 0))), ((u 76), .inl (k 5, 306, .inr (.inr (.inr (.inr (fun j => some (u 76 + 1 + j))))))), ((u 73), .inl (k 5, 90, .inr (.inr (.inr (.inr (fun j => some (u 73 + 1 + j))))))), ((u 77), .inl (k 5, 17, .inr (.inr (.inr (.inr (fun j => some (u 77 + 1 + j))))))), ((u 78), .inl (k 5, 17, .inr (.inr (.inr (.inr (fun j => some (u 78 + 1 + j))))))), ((u 1), .inr (1, [.ref (u 2), .ref (u 3), .ref (u 4), .ref (u 5), .ref (u 6), .ref (u 7), .ref (u 9), .ref (u 11), .ref (u 13), .ref (u 15), .int 0, .int 0, .int 0, .int 0])), ((u 2), .inl (k 4, 3731, .inr (.inr (.inr (.inr (fun j => adO (stU u j))))))), ((u 3), .inl (k 0, 40, .inl (fun _ => 0))), ((u 4), .inl (k 0, 40, .inl (fun _ => 0))), ((u 5), .inl (k 0, 91, .inl (fun _ => 0))), ((u 6), .inl (k 0, 40, .inl (fun _ => 0))), ((u 17), .inr (3, [.ref (u 18), .ref (u 19), .ref (u 21), .ref (u 23), .ref (u 25), .ref (u 27), .int 0, .int 0])), ((u 18), .inl (k 4, 4, .inr (.inr (.inr (.inr (fun j => some (u (29 + 2 * j))))))))] ++ (tpl k (stU u) N9 ++ va_pl ((u 75) :: (u 74) :: (((([] ++ mz_rows (u 73) 90) ++ mz_rows (u 76) 306) ++ mz_rows (u 77) 17) ++ mz_rows (u 78) 17)) (rwp k 41 zrw)))) :=
  ⟨(u 0, u 65, u 66, u 71, u 1, u 17, 0, u 37, 0, 0, -2, fun g j => u (37 + 7 * g + j), fun _ => 0, fun _ _ _ => 0, u 67, u 68, u 69, u 70, 0, 0, 0, 0, fun _ => 0, fun _ => 0, fun _ => 0, fun _ => 0, u 72, u 73, u 74, u 75, u 76, u 77, u 78, u 37, 0, 0, 0, fun _ => 0, fun j => u 76 + 1 + j, fun j => u 73 + 1 + j, fun j => u 77 + 1 + j, fun j => u 78 + 1 + j, ((u 75) :: (u 74) :: (((([] ++ mz_rows (u 73) 90) ++ mz_rows (u 76) 306) ++ mz_rows (u 77) 17) ++ mz_rows (u 78) 17)), zrw, u 2, u 3, u 4, u 5, u 6, u 7, u 9, u 11, u 13, u 15, 0, 0, 0, 0, fun _ => 0, fun _ => 0, fun _ => 0, fun _ => 0, u 18, u 19, u 21, u 23, u 25, u 27, 0, 0, fun j => u (29 + 2 * j), N9, stU u, fun _ => 0), rfl, rfl, hN, hO_first, at_one (b := u 8) (by unfold stU; simp), at_one (b := u 10) (by unfold stU; simp), at_one (b := u 12) (by unfold stU; simp), at_one (b := u 14) (by unfold stU; simp), at_one (b := u 16) (by unfold stU; simp), at_four, at_one (b := u 20) (by unfold stU; simp), at_one (b := u 22) (by unfold stU; simp), at_one (b := u 24) (by unfold stU; simp), at_one (b := u 26) (by unfold stU; simp), at_one (b := u 28) (by unfold stU; simp), lp_first, Nat.zero_le _, fun _ _ => Nat.zero_le _, fun _ _ => Nat.zero_le _, fun _ _ _ => rfl, Nat.zero_le _, Nat.zero_le _, Nat.zero_le _, rfl⟩
theorem pt_first {u : Nat → Nat} {N9 : Nat} (hN : N9 = 3745) : pt (stU u) N9 ≤ 368438 := by
  have := pt_le (st := stU u) N9
  omega
set_option maxRecDepth 100000 in
set_option maxHeartbeats 4000000 in
theorem w_PB_init (l : Launch) (G : va_G) (k : Nat → ClassId) (h0 s0 sl : Nat) : CG l y_PB_init c_PB_init 2 none { frames := 3, cells := 509, slots := 26027, locals := 53 } [.ref h0] G k s0 sl [(h0, .inr (0, [.null, .null, .null, .null, .null, .null, .int 0, .int 0, .int 0]))] (fun (u : va_W × Nat) => none) (fun (u : va_W × Nat) => cwO k h0 0 (fun _ => 0) (fun _ => 0) (fun _ => 0) (-2) 0 (-2) 0 none u.2 u.1 ∧ u.2 ≤ 368438) (fun (u : va_W × Nat) => u.1) (fun (u : va_W × Nat) => 509) (fun (u : va_W × Nat) => 26027) 509 26027 := by
  obtain ⟨N9, hN⟩ : ∃ N9 : Nat, N9 = 3745 := ⟨_, rfl⟩
  exact cg_imp (g_PB_init l G k h0 s0 sl N9 hN) (fun u _ => ⟨(_, _), ⟨cw_first hN, pt_first hN⟩, rfl, List.Perm.refl _, Nat.le_refl _, Nat.le_refl _⟩)
