section
/-! rows with their value by name, branches on natural numbers -/
section ZROWS
variable {p : Program} {l : Launch} {e : Env} {R : Room} {s : State} {m : MethodId} {args : Array Value} {below : List Frame} {meth : Method} {c : Code} {H : Heap} {locs : List Loc} {cells slots : Nat} {Q : State → Prop} {cc : ByteArray} {pc : Nat} {ls : Array Slot} {rest : List Value}
theorem z_iadd (hx : p.tables.exec = Jvm.exec) (hb : c.code = cc) {x y v : Int32} (hd : decode cc pc = .ok (.iadd, 1)) (hv : x + y = v) (kk : W p l e R s m args below meth c H locs cells slots Q (F0 m (pc + 1) ls (.int v :: rest))) : W p l e R s m args below meth c H locs cells slots Q (F0 m pc ls (.int y :: .int x :: rest)) := by subst hv; exact lv_iadd hx hb hd kk
theorem z_ladd (hx : p.tables.exec = Jvm.exec) (hb : c.code = cc) {x y v : Int64} (hd : decode cc pc = .ok (.ladd, 1)) (hv : x + y = v) (kk : W p l e R s m args below meth c H locs cells slots Q (F0 m (pc + 1) ls (.long v :: rest))) : W p l e R s m args below meth c H locs cells slots Q (F0 m pc ls (.long y :: .long x :: rest)) := by subst hv; exact lv_ladd hx hb hd kk
theorem z_isub (hx : p.tables.exec = Jvm.exec) (hb : c.code = cc) {x y v : Int32} (hd : decode cc pc = .ok (.isub, 1)) (hv : x - y = v) (kk : W p l e R s m args below meth c H locs cells slots Q (F0 m (pc + 1) ls (.int v :: rest))) : W p l e R s m args below meth c H locs cells slots Q (F0 m pc ls (.int y :: .int x :: rest)) := by subst hv; exact lv_isub hx hb hd kk
theorem z_lsub (hx : p.tables.exec = Jvm.exec) (hb : c.code = cc) {x y v : Int64} (hd : decode cc pc = .ok (.lsub, 1)) (hv : x - y = v) (kk : W p l e R s m args below meth c H locs cells slots Q (F0 m (pc + 1) ls (.long v :: rest))) : W p l e R s m args below meth c H locs cells slots Q (F0 m pc ls (.long y :: .long x :: rest)) := by subst hv; exact lv_lsub hx hb hd kk
theorem z_imul (hx : p.tables.exec = Jvm.exec) (hb : c.code = cc) {x y v : Int32} (hd : decode cc pc = .ok (.imul, 1)) (hv : x * y = v) (kk : W p l e R s m args below meth c H locs cells slots Q (F0 m (pc + 1) ls (.int v :: rest))) : W p l e R s m args below meth c H locs cells slots Q (F0 m pc ls (.int y :: .int x :: rest)) := by subst hv; exact lv_imul hx hb hd kk
theorem z_lmul (hx : p.tables.exec = Jvm.exec) (hb : c.code = cc) {x y v : Int64} (hd : decode cc pc = .ok (.lmul, 1)) (hv : x * y = v) (kk : W p l e R s m args below meth c H locs cells slots Q (F0 m (pc + 1) ls (.long v :: rest))) : W p l e R s m args below meth c H locs cells slots Q (F0 m pc ls (.long y :: .long x :: rest)) := by subst hv; exact lv_lmul hx hb hd kk
theorem z_iand (hx : p.tables.exec = Jvm.exec) (hb : c.code = cc) {x y v : Int32} (hd : decode cc pc = .ok (.iand, 1)) (hv : x &&& y = v) (kk : W p l e R s m args below meth c H locs cells slots Q (F0 m (pc + 1) ls (.int v :: rest))) : W p l e R s m args below meth c H locs cells slots Q (F0 m pc ls (.int y :: .int x :: rest)) := by subst hv; exact lv_iand hx hb hd kk
theorem z_land (hx : p.tables.exec = Jvm.exec) (hb : c.code = cc) {x y v : Int64} (hd : decode cc pc = .ok (.land, 1)) (hv : x &&& y = v) (kk : W p l e R s m args below meth c H locs cells slots Q (F0 m (pc + 1) ls (.long v :: rest))) : W p l e R s m args below meth c H locs cells slots Q (F0 m pc ls (.long y :: .long x :: rest)) := by subst hv; exact lv_land hx hb hd kk
theorem z_ior (hx : p.tables.exec = Jvm.exec) (hb : c.code = cc) {x y v : Int32} (hd : decode cc pc = .ok (.ior, 1)) (hv : x ||| y = v) (kk : W p l e R s m args below meth c H locs cells slots Q (F0 m (pc + 1) ls (.int v :: rest))) : W p l e R s m args below meth c H locs cells slots Q (F0 m pc ls (.int y :: .int x :: rest)) := by subst hv; exact lv_ior hx hb hd kk
theorem z_lor (hx : p.tables.exec = Jvm.exec) (hb : c.code = cc) {x y v : Int64} (hd : decode cc pc = .ok (.lor, 1)) (hv : x ||| y = v) (kk : W p l e R s m args below meth c H locs cells slots Q (F0 m (pc + 1) ls (.long v :: rest))) : W p l e R s m args below meth c H locs cells slots Q (F0 m pc ls (.long y :: .long x :: rest)) := by subst hv; exact lv_lor hx hb hd kk
theorem z_ishl (hx : p.tables.exec = Jvm.exec) (hb : c.code = cc) {x y v : Int32} (hd : decode cc pc = .ok (.ishl, 1)) (hv : x <<< (y &&& 31) = v) (kk : W p l e R s m args below meth c H locs cells slots Q (F0 m (pc + 1) ls (.int v :: rest))) : W p l e R s m args below meth c H locs cells slots Q (F0 m pc ls (.int y :: .int x :: rest)) := by subst hv; exact lv_ishl hx hb hd kk
theorem z_ishr (hx : p.tables.exec = Jvm.exec) (hb : c.code = cc) {x y v : Int32} (hd : decode cc pc = .ok (.ishr, 1)) (hv : x >>> (y &&& 31) = v) (kk : W p l e R s m args below meth c H locs cells slots Q (F0 m (pc + 1) ls (.int v :: rest))) : W p l e R s m args below meth c H locs cells slots Q (F0 m pc ls (.int y :: .int x :: rest)) := by subst hv; exact lv_ishr hx hb hd kk
theorem z_lneg (hx : p.tables.exec = Jvm.exec) (hb : c.code = cc) {x v : Int64} (hd : decode cc pc = .ok (.lneg, 1)) (hv : -x = v) (kk : W p l e R s m args below meth c H locs cells slots Q (F0 m (pc + 1) ls (.long v :: rest))) : W p l e R s m args below meth c H locs cells slots Q (F0 m pc ls (.long x :: rest)) := by subst hv; exact lv_lneg hx hb hd kk
theorem z_icmp_eq (hx : p.tables.exec = Jvm.exec) (hb : c.code = cc) {a b : Nat} {off : Int} {tgt : Nat} (hd : decode cc pc = .ok (.if_icmp .eq off, 3)) (ht : (pc : Int) + off = (tgt : Int)) (ha : a < 2147483648) (hc : b < 2147483648) (k1 : a = b → W p l e R s m args below meth c H locs cells slots Q (F0 m tgt ls rest)) (k2 : a ≠ b → W p l e R s m args below meth c H locs cells slots Q (F0 m (pc + 3) ls rest)) : W p l e R s m args below meth c H locs cells slots Q (F0 m pc ls (.int (nI b) :: .int (nI a) :: rest)) := lv_icmp_eq hx hb hd ht (fun h => k1 ((nI_eq ha hc).mp h)) (fun h => k2 (have h : ¬ (a = b) := fun z => h ((nI_eq ha hc).mpr z); h))
theorem z_icmp_lt (hx : p.tables.exec = Jvm.exec) (hb : c.code = cc) {a b : Nat} {off : Int} {tgt : Nat} (hd : decode cc pc = .ok (.if_icmp .lt off, 3)) (ht : (pc : Int) + off = (tgt : Int)) (ha : a < 2147483648) (hc : b < 2147483648) (k1 : a < b → W p l e R s m args below meth c H locs cells slots Q (F0 m tgt ls rest)) (k2 : b ≤ a → W p l e R s m args below meth c H locs cells slots Q (F0 m (pc + 3) ls rest)) : W p l e R s m args below meth c H locs cells slots Q (F0 m pc ls (.int (nI b) :: .int (nI a) :: rest)) := lv_icmp_lt hx hb hd ht (fun h => k1 ((nI_ltI ha hc).mp h)) (fun h => k2 (have h : ¬ (a < b) := fun z => h ((nI_ltI ha hc).mpr z); Nat.le_of_not_lt h))
theorem z_icmp_le (hx : p.tables.exec = Jvm.exec) (hb : c.code = cc) {a b : Nat} {off : Int} {tgt : Nat} (hd : decode cc pc = .ok (.if_icmp .le off, 3)) (ht : (pc : Int) + off = (tgt : Int)) (ha : a < 2147483648) (hc : b < 2147483648) (k1 : a ≤ b → W p l e R s m args below meth c H locs cells slots Q (F0 m tgt ls rest)) (k2 : b < a → W p l e R s m args below meth c H locs cells slots Q (F0 m (pc + 3) ls rest)) : W p l e R s m args below meth c H locs cells slots Q (F0 m pc ls (.int (nI b) :: .int (nI a) :: rest)) := lv_icmp_le hx hb hd ht (fun h => k1 ((nI_leI ha hc).mp h)) (fun h => k2 (have h : ¬ (a ≤ b) := fun z => h ((nI_leI ha hc).mpr z); Nat.lt_of_not_le h))
theorem z_icmp_ge (hx : p.tables.exec = Jvm.exec) (hb : c.code = cc) {a b : Nat} {off : Int} {tgt : Nat} (hd : decode cc pc = .ok (.if_icmp .ge off, 3)) (ht : (pc : Int) + off = (tgt : Int)) (ha : a < 2147483648) (hc : b < 2147483648) (k1 : b ≤ a → W p l e R s m args below meth c H locs cells slots Q (F0 m tgt ls rest)) (k2 : a < b → W p l e R s m args below meth c H locs cells slots Q (F0 m (pc + 3) ls rest)) : W p l e R s m args below meth c H locs cells slots Q (F0 m pc ls (.int (nI b) :: .int (nI a) :: rest)) := lv_icmp_ge hx hb hd ht (fun h => k1 ((nI_leI hc ha).mp h)) (fun h => k2 (have h : ¬ (b ≤ a) := fun z => h ((nI_leI hc ha).mpr z); Nat.lt_of_not_le h))
theorem z_icmp_gt (hx : p.tables.exec = Jvm.exec) (hb : c.code = cc) {a b : Nat} {off : Int} {tgt : Nat} (hd : decode cc pc = .ok (.if_icmp .gt off, 3)) (ht : (pc : Int) + off = (tgt : Int)) (ha : a < 2147483648) (hc : b < 2147483648) (k1 : b < a → W p l e R s m args below meth c H locs cells slots Q (F0 m tgt ls rest)) (k2 : a ≤ b → W p l e R s m args below meth c H locs cells slots Q (F0 m (pc + 3) ls rest)) : W p l e R s m args below meth c H locs cells slots Q (F0 m pc ls (.int (nI b) :: .int (nI a) :: rest)) := lv_icmp_gt hx hb hd ht (fun h => k1 ((nI_ltI hc ha).mp h)) (fun h => k2 (have h : ¬ (b < a) := fun z => h ((nI_ltI hc ha).mpr z); Nat.le_of_not_lt h))
theorem z_icmp_ne (hx : p.tables.exec = Jvm.exec) (hb : c.code = cc) {a b : Nat} {off : Int} {tgt : Nat} (hd : decode cc pc = .ok (.if_icmp .ne off, 3)) (ht : (pc : Int) + off = (tgt : Int)) (ha : a < 2147483648) (hc : b < 2147483648) (k1 : a ≠ b → W p l e R s m args below meth c H locs cells slots Q (F0 m tgt ls rest)) (k2 : a = b → W p l e R s m args below meth c H locs cells slots Q (F0 m (pc + 3) ls rest)) : W p l e R s m args below meth c H locs cells slots Q (F0 m pc ls (.int (nI b) :: .int (nI a) :: rest)) := lv_icmp_ne hx hb hd ht (fun h => k1 (fun z => h ((nI_eq ha hc).mpr z))) (fun h => k2 ((nI_eq ha hc).mp h))
theorem z_if_eq (hx : p.tables.exec = Jvm.exec) (hb : c.code = cc) {a : Nat} {off : Int} {tgt : Nat} (hd : decode cc pc = .ok (.ifCond .eq off, 3)) (ht : (pc : Int) + off = (tgt : Int)) (ha : a < 2147483648) (k1 : a = 0 → W p l e R s m args below meth c H locs cells slots Q (F0 m tgt ls rest)) (k2 : 0 < a → W p l e R s m args below meth c H locs cells slots Q (F0 m (pc + 3) ls rest)) : W p l e R s m args below meth c H locs cells slots Q (F0 m pc ls (.int (nI a) :: rest)) := lv_if_eq hx hb hd ht (fun h => k1 ((nI_eq ha (by decide : (0:Nat) < 2 ^ 31)).mp h)) (fun h => k2 (have h : ¬ (a = 0) := fun z => h ((nI_eq ha (by decide : (0:Nat) < 2 ^ 31)).mpr z); Nat.pos_of_ne_zero h))
theorem z_if_gt (hx : p.tables.exec = Jvm.exec) (hb : c.code = cc) {a : Nat} {off : Int} {tgt : Nat} (hd : decode cc pc = .ok (.ifCond .gt off, 3)) (ht : (pc : Int) + off = (tgt : Int)) (ha : a < 2147483648) (k1 : 0 < a → W p l e R s m args below meth c H locs cells slots Q (F0 m tgt ls rest)) (k2 : a = 0 → W p l e R s m args below meth c H locs cells slots Q (F0 m (pc + 3) ls rest)) : W p l e R s m args below meth c H locs cells slots Q (F0 m pc ls (.int (nI a) :: rest)) := lv_if_gt hx hb hd ht (fun h => k1 ((nI_ltI (by decide : (0:Nat) < 2 ^ 31) ha).mp h)) (fun h => k2 (have h : ¬ (0 < a) := fun z => h ((nI_ltI (by decide : (0:Nat) < 2 ^ 31) ha).mpr z); Nat.eq_zero_of_not_pos h))
theorem z_if_ne (hx : p.tables.exec = Jvm.exec) (hb : c.code = cc) {a : Nat} {off : Int} {tgt : Nat} (hd : decode cc pc = .ok (.ifCond .ne off, 3)) (ht : (pc : Int) + off = (tgt : Int)) (ha : a < 2147483648) (k1 : 0 < a → W p l e R s m args below meth c H locs cells slots Q (F0 m tgt ls rest)) (k2 : a = 0 → W p l e R s m args below meth c H locs cells slots Q (F0 m (pc + 3) ls rest)) : W p l e R s m args below meth c H locs cells slots Q (F0 m pc ls (.int (nI a) :: rest)) := lv_if_ne hx hb hd ht (fun h => k1 (Nat.pos_of_ne_zero (fun z => h ((nI_eq ha (by decide : (0:Nat) < 2 ^ 31)).mpr z)))) (fun h => k2 ((nI_eq ha (by decide : (0:Nat) < 2 ^ 31)).mp h))
theorem z_if_le (hx : p.tables.exec = Jvm.exec) (hb : c.code = cc) {a : Nat} {off : Int} {tgt : Nat} (hd : decode cc pc = .ok (.ifCond .le off, 3)) (ht : (pc : Int) + off = (tgt : Int)) (ha : a < 2147483648) (k1 : a = 0 → W p l e R s m args below meth c H locs cells slots Q (F0 m tgt ls rest)) (k2 : 0 < a → W p l e R s m args below meth c H locs cells slots Q (F0 m (pc + 3) ls rest)) : W p l e R s m args below meth c H locs cells slots Q (F0 m pc ls (.int (nI a) :: rest)) := lv_if_le hx hb hd ht (fun h => k1 (Nat.eq_zero_of_not_pos (fun z => nI_nle z ha h))) (fun h => k2 (Nat.pos_of_ne_zero (fun z => h (by rw [z]; decide))))
theorem z_if_lt (hx : p.tables.exec = Jvm.exec) (hb : c.code = cc) {a : Nat} {off : Int} {tgt : Nat} (hd : decode cc pc = .ok (.ifCond .lt off, 3)) (ht : (pc : Int) + off = (tgt : Int)) (ha : a < 2147483648) (k2 : W p l e R s m args below meth c H locs cells slots Q (F0 m (pc + 3) ls rest)) : W p l e R s m args below meth c H locs cells slots Q (F0 m pc ls (.int (nI a) :: rest)) := lv_if_lt hx hb hd ht (fun h => absurd h (nI_pos ha)) (fun _ => k2)
theorem z_if_ge (hx : p.tables.exec = Jvm.exec) (hb : c.code = cc) {a : Nat} {off : Int} {tgt : Nat} (hd : decode cc pc = .ok (.ifCond .ge off, 3)) (ht : (pc : Int) + off = (tgt : Int)) (ha : a < 2147483648) (k1 : W p l e R s m args below meth c H locs cells slots Q (F0 m tgt ls rest)) : W p l e R s m args below meth c H locs cells slots Q (F0 m pc ls (.int (nI a) :: rest)) := lv_if_ge hx hb hd ht (fun _ => k1) (fun h => absurd (nI_pos' ha) h)
theorem z_lif_eq (hx : p.tables.exec = Jvm.exec) (hb : c.code = cc) {a b : Nat} {off : Int} {tgt : Nat} (hd : decode cc pc = .ok (.ifCond .eq off, 3)) (ht : (pc : Int) + off = (tgt : Int)) (ha : a < 9223372036854775808) (hc : b < 9223372036854775808) (k1 : a = b → W p l e R s m args below meth c H locs cells slots Q (F0 m tgt ls rest)) (k2 : a ≠ b → W p l e R s m args below meth c H locs cells slots Q (F0 m (pc + 3) ls rest)) : W p l e R s m args below meth c H locs cells slots Q (F0 m pc ls (.int (lg_cmp (lN a) (lN b)) :: rest)) := lv_if_eq hx hb hd ht (fun h => k1 ((pk_lEQ ha hc).mp ((lg_cmp_eq _ _).mp h))) (fun h => k2 (have h : ¬ (a = b) := fun z => h ((lg_cmp_eq _ _).mpr ((pk_lEQ ha hc).mpr z)); h))
theorem z_lif_lt (hx : p.tables.exec = Jvm.exec) (hb : c.code = cc) {a b : Nat} {off : Int} {tgt : Nat} (hd : decode cc pc = .ok (.ifCond .lt off, 3)) (ht : (pc : Int) + off = (tgt : Int)) (ha : a < 9223372036854775808) (hc : b < 9223372036854775808) (k1 : a < b → W p l e R s m args below meth c H locs cells slots Q (F0 m tgt ls rest)) (k2 : b ≤ a → W p l e R s m args below meth c H locs cells slots Q (F0 m (pc + 3) ls rest)) : W p l e R s m args below meth c H locs cells slots Q (F0 m pc ls (.int (lg_cmp (lN a) (lN b)) :: rest)) := lv_if_lt hx hb hd ht (fun h => k1 ((pk_lLT ha hc).mp ((lg_cmp_lt _ _).mp h))) (fun h => k2 (have h : ¬ (a < b) := fun z => h ((lg_cmp_lt _ _).mpr ((pk_lLT ha hc).mpr z)); Nat.le_of_not_lt h))
theorem z_lif_le (hx : p.tables.exec = Jvm.exec) (hb : c.code = cc) {a b : Nat} {off : Int} {tgt : Nat} (hd : decode cc pc = .ok (.ifCond .le off, 3)) (ht : (pc : Int) + off = (tgt : Int)) (ha : a < 9223372036854775808) (hc : b < 9223372036854775808) (k1 : a ≤ b → W p l e R s m args below meth c H locs cells slots Q (F0 m tgt ls rest)) (k2 : b < a → W p l e R s m args below meth c H locs cells slots Q (F0 m (pc + 3) ls rest)) : W p l e R s m args below meth c H locs cells slots Q (F0 m pc ls (.int (lg_cmp (lN a) (lN b)) :: rest)) := lv_if_le hx hb hd ht (fun h => k1 ((pk_lLE ha hc).mp ((lg_cmp_le _ _).mp h))) (fun h => k2 (have h : ¬ (a ≤ b) := fun z => h ((lg_cmp_le _ _).mpr ((pk_lLE ha hc).mpr z)); Nat.lt_of_not_le h))
theorem z_lif_ge (hx : p.tables.exec = Jvm.exec) (hb : c.code = cc) {a b : Nat} {off : Int} {tgt : Nat} (hd : decode cc pc = .ok (.ifCond .ge off, 3)) (ht : (pc : Int) + off = (tgt : Int)) (ha : a < 9223372036854775808) (hc : b < 9223372036854775808) (k1 : b ≤ a → W p l e R s m args below meth c H locs cells slots Q (F0 m tgt ls rest)) (k2 : a < b → W p l e R s m args below meth c H locs cells slots Q (F0 m (pc + 3) ls rest)) : W p l e R s m args below meth c H locs cells slots Q (F0 m pc ls (.int (lg_cmp (lN a) (lN b)) :: rest)) := lv_if_ge hx hb hd ht (fun h => k1 ((pk_lLE hc ha).mp ((lg_cmp_ge _ _).mp h))) (fun h => k2 (have h : ¬ (b ≤ a) := fun z => h ((lg_cmp_ge _ _).mpr ((pk_lLE hc ha).mpr z)); Nat.lt_of_not_le h))
theorem z_lif_gt (hx : p.tables.exec = Jvm.exec) (hb : c.code = cc) {a b : Nat} {off : Int} {tgt : Nat} (hd : decode cc pc = .ok (.ifCond .gt off, 3)) (ht : (pc : Int) + off = (tgt : Int)) (ha : a < 9223372036854775808) (hc : b < 9223372036854775808) (k1 : b < a → W p l e R s m args below meth c H locs cells slots Q (F0 m tgt ls rest)) (k2 : a ≤ b → W p l e R s m args below meth c H locs cells slots Q (F0 m (pc + 3) ls rest)) : W p l e R s m args below meth c H locs cells slots Q (F0 m pc ls (.int (lg_cmp (lN a) (lN b)) :: rest)) := lv_if_gt hx hb hd ht (fun h => k1 ((pk_lLT hc ha).mp ((lg_cmp_gt _ _).mp h))) (fun h => k2 (have h : ¬ (b < a) := fun z => h ((lg_cmp_gt _ _).mpr ((pk_lLT hc ha).mpr z)); Nat.le_of_not_lt h))
end ZROWS
theorem z_m1 {a : Nat} (h : 1 ≤ a) : nI a + Int32.ofInt (-1) = nI (a - 1) := by
  obtain ⟨b, rfl⟩ : ∃ b, a = b + 1 := ⟨a - 1, by omega⟩
  exact pk_m1 b
theorem bo_nz {b : Nat} (h : b ≤ 1) : narrow .boolean (.int (nI b)) = .int (nI b) := by
  obtain rfl | rfl : b = 0 ∨ b = 1 := by omega
  · rfl
  · rfl
theorem bo_fz {b : Nat} (h : b ≤ 1) : fits .boolean (.int (nI b)) = true := by
  obtain rfl | rfl : b = 0 ∨ b = 1 := by omega
  · rfl
  · rfl
end
section
/-! numbers of the table: what a cell holds -/
theorem vl_split {B : Nat} (g : Nat → Nat) (a : Nat) : ∀ b, vl B g (a + b) = vl B g a + vl B (fun i => g (a + i)) b * B ^ a
  | 0 => by simp [vl]
  | b + 1 => by
    rw [← Nat.add_assoc, vl_s, vl_s, vl_split g a b, Nat.add_mul, Nat.pow_add, ← Nat.add_assoc, Nat.mul_comm (B ^ a) (B ^ b), Nat.mul_assoc]
/-- one step of a long division: digit k9 of the quotient is found -/
theorem dv_step {V X Q R Lo K1 : Nat} {k9 : Nat} (hLo : Lo < 65536 ^ k9) (hX : Lo + R * 65536 ^ k9 + Q * (65536 ^ (k9 + 1) * V) = X) (hV : 0 < V) (hK : K1 = Lo + R % V * 65536 ^ k9) :
    K1 + (R / V + Q * 65536) * (65536 ^ k9 * V) = X ∧ K1 < 65536 ^ k9 * V := by
  have h1 : R = V * (R / V) + R % V := (Nat.div_add_mod R V).symm
  have h2 : R % V < V := Nat.mod_lt _ hV
  generalize R / V = r at *
  generalize R % V = t at *
  subst h1
  subst hK
  rw [Nat.pow_succ] at hX
  generalize 65536 ^ k9 = P at *
  refine ⟨?_, ?_⟩
  · rw [← hX]
    have e1 : (V * r + t) * P = r * (P * V) + t * P := by rw [Nat.add_mul]; congr 1; rw [Nat.mul_comm V r, Nat.mul_assoc, Nat.mul_comm V P]
    have e2 : Q * (P * 65536 * V) = Q * 65536 * (P * V) := by rw [Nat.mul_assoc Q, Nat.mul_comm P 65536, Nat.mul_assoc 65536]
    rw [e1, e2, Nat.add_mul]
    omega
  · have e3 : (t + 1) * P ≤ V * P := Nat.mul_le_mul_right _ h2
    rw [Nat.add_mul, Nat.one_mul] at e3
    rw [Nat.mul_comm P V]
    omega
theorem dv_R {V X Lo P : Nat} {R : Nat} (h : Lo + R * P < P * 65536 * V) (hP : 0 < P) : R < 65536 * V := by
  apply Nat.lt_of_not_le
  intro q
  have h2 : 65536 * V * P ≤ R * P := Nat.mul_le_mul_right P q
  have h3 : 65536 * V * P = P * 65536 * V := by rw [Nat.mul_comm (65536 * V) P, Nat.mul_assoc]
  omega
/-- the divisor is shifted so that its highest digit is large: nothing is carried out -/
theorem dv_shift {g : Nat → Nat} {n j : Nat} (hn : 1 ≤ n) (hg : ∀ i, i < n → g i < 65536) (ht : g (n - 1) * 2 ^ j < 65536) (hj : j ≤ 16) : vl 65536 g n * 2 ^ j < 65536 ^ n := by
  obtain ⟨m, rfl⟩ : ∃ m, n = m + 1 := ⟨n - 1, by omega⟩
  have ht : g m * 2 ^ j < 65536 := ht
  have h1 := vl_lt (B := 65536) m (fun i hi => hg i (by omega))
  have h2 : (2 : Nat) ^ (16 - j) * 2 ^ j = 65536 := by rw [← Nat.pow_add, Nat.sub_add_cancel hj]
  have h3 : g m < 2 ^ (16 - j) := by
    apply Nat.lt_of_not_le
    intro q
    have := Nat.mul_le_mul_right (2 ^ j) q
    omega
  have h4 : (g m + 1) * 65536 ^ m * 2 ^ j ≤ 2 ^ (16 - j) * 65536 ^ m * 2 ^ j := Nat.mul_le_mul_right _ (Nat.mul_le_mul_right _ h3)
  have h5 : 2 ^ (16 - j) * 65536 ^ m * 2 ^ j = 65536 ^ (m + 1) := by rw [Nat.mul_right_comm, h2, Nat.pow_succ, Nat.mul_comm]
  have h6 : vl 65536 g (m + 1) < (g m + 1) * 65536 ^ m := by rw [vl_s, Nat.add_mul, Nat.one_mul]; omega
  have h7 := Nat.mul_lt_mul_of_pos_right h6 (Nat.two_pow_pos j)
  omega
theorem no_carry {a b c P : Nat} (h : a + c * P = b) (hb : b < P) : c = 0 ∧ a = b := by
  rcases Nat.eq_zero_or_pos c with q | q
  · subst q; omega
  · have := Nat.mul_le_mul_right P q
    omega
theorem vl_top {g : Nat → Nat} {n : Nat} (hn : 1 ≤ n) (hg : ∀ i, i < n → g i < 65536) (h : 65536 ^ (n - 1) ≤ vl 65536 g n) : 0 < g (n - 1) := by
  obtain ⟨m, rfl⟩ : ∃ m, n = m + 1 := ⟨n - 1, by omega⟩
  show 0 < g m
  have h : 65536 ^ m ≤ vl 65536 g (m + 1) := h
  apply Nat.pos_of_ne_zero
  intro q
  have h1 := vl_lt (B := 65536) m (fun i hi => hg i (by omega))
  rw [vl_s, q] at h
  omega
/-- what a cell holds; what all cells hold -/
def nmO (dg sz bl : Nat → Nat) (c : Nat) (z : Int) : Prop := sz c ≤ 80 ∧ bl c ≤ 1 ∧ (sz c = 0 ∨ dg (c * 80 + (sz c - 1)) ≠ 0) ∧ (sz c = 0 → bl c = 0) ∧ sv (bl c) (vl 65536 (fun i => dg (c * 80 + i)) (sz c)) = z
def tbO (dg sz bl : Nat → Nat) (T : Nat → Int) : Prop := (∀ i, i < 319840 → dg i < 65536) ∧ ∀ c, c < 3998 → nmO dg sz bl c (T c)
theorem sv_abs {b n : Nat} : (sv b n).natAbs = n := by
  unfold sv
  split <;> omega
theorem nmO_abs {dg sz bl : Nat → Nat} {c : Nat} {z : Int} (h : nmO dg sz bl c z) : vl 65536 (fun i => dg (c * 80 + i)) (sz c) = z.natAbs := by
  rw [← h.2.2.2.2, sv_abs]
/-- a small number has few digits -/
theorem nmO_size {dg sz bl : Nat → Nat} {c n : Nat} {z : Int} (h : nmO dg sz bl c z) (hz : z.natAbs < 65536 ^ n) : sz c ≤ n := by
  apply Nat.le_of_not_lt
  intro q
  have h1 := vl_ge (B := 65536) (g := fun i => dg (c * 80 + i)) (n := sz c) (by omega) (h.2.2.1.resolve_left (by omega))
  rw [nmO_abs h] at h1
  have h2 : 65536 ^ n ≤ 65536 ^ (sz c - 1) := Nat.pow_le_pow_right (by decide) (by omega)
  omega
theorem nmO_zero {dg sz bl : Nat → Nat} {c : Nat} {z : Int} (h : nmO dg sz bl c z) : sz c = 0 ↔ z = 0 := by
  constructor
  · intro q
    have h1 := nmO_abs h
    rw [q] at h1
    have h1 : 0 = z.natAbs := h1
    omega
  · intro q
    have := nmO_size (n := 0) h (by rw [q]; decide)
    omega
theorem nmO_neg {dg sz bl : Nat → Nat} {c : Nat} {z : Int} (h : nmO dg sz bl c z) : bl c = 1 ↔ z < 0 := by
  have h0 := h.2.2.2.2
  have h1 := h.2.2.2.1
  have h2 := nmO_zero h
  have h3 := h.2.1
  unfold sv at h0
  constructor
  · intro q
    rw [if_pos q] at h0
    omega
  · intro q
    apply Classical.byContradiction
    intro q2
    rw [if_neg q2] at h0
    omega
theorem sgN_val {dg sz bl : Nat → Nat} {c : Nat} {z : Int} (h : nmO dg sz bl c z) : sgN (sz c) (bl c) = (if z = 0 then 0 else if z < 0 then -1 else 1) := by
  unfold sgN
  have h2 := nmO_zero h
  have h3 := nmO_neg h
  have h4 := h.2.1
  by_cases q : z = 0
  · rw [if_pos (h2.mpr q), if_pos q]
  · rw [if_neg (fun e => q (h2.mp e)), if_neg q]
    by_cases q2 : z < 0
    · have := h3.mpr q2
      rw [if_neg (by omega), if_pos q2]
    · rw [if_pos (by have := mt h3.mp q2; omega), if_neg q2]
/-- a number is put into a cell: the others stay -/
theorem tbO_up {dg sz bl dg' : Nat → Nat} {T : Nat → Int} {c n b : Nat} {z : Int} (h : tbO dg sz bl T) (hd : ∀ i, i < 319840 → dg' i < 65536) (ho : ∀ i, i < c * 80 ∨ c * 80 + 80 ≤ i → dg' i = dg i) (hn : n ≤ 80) (hb : b ≤ 1) (ht : n = 0 ∨ dg' (c * 80 + (n - 1)) ≠ 0) (hz : n = 0 → b = 0) (hv : sv b (vl 65536 (fun i => dg' (c * 80 + i)) n) = z) :
    tbO dg' (va_up sz c n) (va_up bl c b) (va_up T c z) := by
  refine ⟨hd, fun x hx => ?_⟩
  by_cases q : x = c
  · subst q
    unfold nmO
    rw [va_up_self, va_up_self, va_up_self]
    exact ⟨hn, hb, ht, hz, hv⟩
  · have h1 := h.2 x hx
    unfold nmO at h1 ⊢
    rw [va_up_ne _ _ q, va_up_ne _ _ q, va_up_ne _ _ q]
    refine ⟨h1.1, h1.2.1, ?_, h1.2.2.2.1, ?_⟩
    · rcases h1.2.2.1 with w | w
      · exact Or.inl w
      · right
        rw [ho _ (by omega)]
        exact w
    · rw [vl_congr (h := fun i => dg (x * 80 + i)) (sz x) (fun i hi => ho _ (by omega))]
      exact h1.2.2.2.2
theorem tbO_turn {dg sz bl : Nat → Nat} {T : Nat → Int} {c : Nat} (h : tbO dg sz bl T) (hc : c < 3998) : tbO dg sz (va_up bl c (tnB (sz c) (bl c))) (va_up T c (- T c)) := by
  refine ⟨h.1, fun x hx => ?_⟩
  have h1 := h.2 x hx
  by_cases q : x = c
  · subst q
    unfold nmO at h1 ⊢
    rw [va_up_self, va_up_self]
    refine ⟨h1.1, ?_, h1.2.2.1, ?_, ?_⟩
    · unfold tnB; split
      · omega
      · split <;> omega
    · intro w; unfold tnB; rw [if_pos w]
    · have h2 := h1.2.2.2.2
      have h3 := h1.2.2.2.1
      have h4 := h1.2.1
      unfold sv at h2 ⊢
      unfold tnB
      by_cases w : sz x = 0
      · rw [if_pos w, if_neg (by decide)]
        rw [h3 w, if_neg (by decide)] at h2
        rw [w] at h2 ⊢
        have h2 : (0 : Int) = T x := h2
        show (0 : Int) = _
        omega
      · rw [if_neg w]
        by_cases w2 : bl x = 0
        · rw [if_pos w2, if_pos rfl]
          rw [w2, if_neg (by decide)] at h2
          rw [h2]
        · rw [if_neg w2, if_neg (by decide)]
          rw [if_pos (by omega)] at h2
          omega
  · unfold nmO at h1 ⊢
    rw [va_up_ne _ _ q, va_up_ne _ _ q]
    exact h1
end
section
/-! tables in whole numbers: what both solvers hold, up to a sign; Bland's rule over them -/
theorem dt_unit : ∀ n, dt n (fun i j => if i = j then 1 else 0) = 1
  | 0 => rfl
  | n + 1 => by
    show dt_sum (n + 1) (fun i => dt_sg i * (if i = 0 then 1 else 0) * dt n (fun a b => if dt_sk i a = b + 1 then 1 else 0)) = 1
    rw [dt_sum_one (s := 0) (by omega) (fun i hi q => by rw [if_neg q, Int.mul_zero, Int.zero_mul])]
    have e : dt n (fun a b => if dt_sk 0 a = b + 1 then (1 : Int) else 0) = dt n (fun i j => if i = j then 1 else 0) := dt_congr (fun a _ b _ => by
      show (if (if a < 0 then a else a + 1) = b + 1 then (1 : Int) else 0) = _
      rw [if_neg (Nat.not_lt_zero a)]
      by_cases q : a = b
      · rw [if_pos (by omega), if_pos q]
      · rw [if_neg (by omega), if_neg q])
    rw [e, dt_unit n]
    rfl
def sxS (p : Int) : Int := if 0 < p then 1 else -1
theorem sxS_q (p : Int) : sxS p = 1 ∨ sxS p = -1 := by
  unfold sxS; split
  · exact Or.inl rfl
  · exact Or.inr rfl
theorem sxS_abs {p : Int} (h : p ≠ 0) : (p.natAbs : Int) = sxS p * p := by
  unfold sxS; split <;> omega
/-- a table: rows' names nm, columns' names cn, all cells and the common number up to the sign e -/
def sxT (n : Nat) (F : Nat → Nat → Int) (M : Nat) (nm cn : Nat → Nat) (e : Int) (t : Nat → Nat → Int) (one : Int) : Prop :=
  (e = 1 ∨ e = -1) ∧ one = e * tD n F cn ∧ 0 < one ∧ ∀ i, i < M → ∀ j, j < n + 1 → t i j = e * tT n F cn (nm i) j
section SX
variable {n : Nat} {F : Nat → Nat → Int} {M : Nat} {nm cn : Nat → Nat} {e : Int} {t : Nat → Nat → Int} {one : Int}
theorem sx_e (h : e = 1 ∨ e = -1) (a b : Int) : (e * a) * (e * b) = a * b := by
  rcases h with h | h <;> subst h
  · rw [Int.one_mul, Int.one_mul]
  · rw [Int.neg_one_mul, Int.neg_one_mul, Int.neg_mul_neg]
theorem sx_exact (h : sxT n F M nm cn e t one) {r s i j : Nat} (hr : r < M) (hs : s < n) (hi : i < M) (hj : j < n + 1) (hne : j ≠ s) {cn' : Nat → Nat} (hc : ∀ j, j < n → cn' j = if j = s then nm r else cn j) :
    t r s * t i j - t i s * t r j = one * (e * tT n F cn' (nm i) j) := by
  obtain ⟨he, h1, -, h2⟩ := h
  rw [h2 r hr s (by omega), h2 i hi j hj, h2 i hi s (by omega), h2 r hr j hj, h1, sx_e he, sx_e he, sx_e he]
  exact (tT_next hs hc (nm i) hj hne).symm
theorem sx_div (h : sxT n F M nm cn e t one) {r s i j : Nat} (hr : r < M) (hs : s < n) (hi : i < M) (hj : j < n + 1) (hne : j ≠ s) {cn' : Nat → Nat} (hc : ∀ j, j < n → cn' j = if j = s then nm r else cn j) :
    (t r s * t i j - t i s * t r j) / one = e * tT n F cn' (nm i) j := by
  rw [sx_exact h hr hs hi hj hne hc]
  exact Int.mul_ediv_cancel_left _ (by have := h.2.2.1; omega)
theorem sx_next (h : sxT n F M nm cn e t one) {r s : Nat} (hr : r < M) (hs : s < n) (hp : t r s ≠ 0) {nm' cn' : Nat → Nat} (hn : ∀ i, i < M → nm' i = if i = r then cn s else nm i) (hc : ∀ j, j < n → cn' j = if j = s then nm r else cn j) {t' : Nat → Nat → Int}
    (h1 : ∀ i, i < M → i ≠ r → ∀ j, j < n + 1 → j ≠ s → t' i j = sxS (t r s) * ((t r s * t i j - t i s * t r j) / one))
    (h2 : ∀ i, i < M → i ≠ r → t' i s = sxS (t r s) * t i s) (h3 : ∀ j, j < n + 1 → j ≠ s → t' r j = - (sxS (t r s) * t r j)) (h4 : t' r s = sxS (t r s) * one) :
    sxT n F M nm' cn' (sxS (t r s) * e) t' (t r s).natAbs := by
  have g1 := h.2.1
  have g2 := h.2.2.1
  have g3 := h.2.2.2
  have hD : tD n F cn ≠ 0 := by
    intro q
    rw [q, Int.mul_zero] at g1
    omega
  refine ⟨?_, ?_, ?_, fun i hi j hj => ?_⟩
  · rcases sxS_q (t r s) with q | q <;> rcases h.1 with w | w <;> rw [q, w]
    · exact Or.inl rfl
    · exact Or.inr rfl
    · exact Or.inr rfl
    · exact Or.inl rfl
  · rw [sxS_abs hp, tD_next hs hc, Int.mul_assoc, ← g3 r hr s (by omega)]
  · omega
  · by_cases qi : i = r
    · subst qi
      rw [hn i hi, if_pos rfl]
      by_cases qj : j = s
      · subst qj
        rw [h4, tT_old_s hs hc, Int.mul_assoc, ← g1]
      · rw [h3 j hj qj, tT_old hD hs hc hj qj, g3 i hi j hj, Int.mul_neg, Int.mul_assoc]
    · rw [hn i hi, if_neg qi]
      by_cases qj : j = s
      · subst qj
        rw [h2 i hi qi, tT_next_s hs hc, g3 i hi j hj, Int.mul_assoc]
      · rw [h1 i hi qi j hj qj, sx_div h hr hs hi hj qj hc, Int.mul_assoc]
theorem dt_nm_unit (n : Nat) : dt_nm (n + 1) (fun c => if c = n then 1 else 0) = 1 := by
  have h : ∀ m, m ≤ n → dt_nm m (fun c => if c = n then (1 : Int) else 0) = 0 := by
    intro m
    induction m with
    | zero => intro _; rfl
    | succ m ih =>
      intro hm
      rw [dt_nm_s, ih (by omega)]
      simp only [if_neg (show ¬ m = n by omega)]
      rfl
  rw [dt_nm_s, h n (Nat.le_refl _)]
  simp only [if_pos]
  rfl
theorem tb_nm {B : Nat} (hB : 1 ≤ B) (hF : ∀ v, dt_nm (n + 1) (F v) ≤ B) (i : Nat) : dt_nm (n + 1) (tb n F cn i) ≤ B := by
  unfold tb
  by_cases q : i < n
  · simp only [if_pos q]
    exact hF _
  · simp only [if_neg q]
    rw [dt_nm_unit]
    exact hB
theorem tT_le {B : Nat} (hB : 1 ≤ B) (hF : ∀ v, dt_nm (n + 1) (F v) ≤ B) (v j : Nat) : (tT n F cn v j).natAbs ≤ B ^ (n + 1) := by
  refine Nat.le_trans (dt_le _ _) (dt_pr_pow (fun i _ => ?_))
  by_cases q : i = j
  · have e : dt_put (tb n F cn) j (F v) i = F v := by funext c; exact dt_put_s _ _ q c
    rw [e]; exact hF v
  · have e : dt_put (tb n F cn) j (F v) i = tb n F cn i := by funext c; exact dt_put_n _ _ q c
    rw [e]; exact tb_nm hB hF i
theorem tD_le {B : Nat} (hB : 1 ≤ B) (hF : ∀ v, dt_nm (n + 1) (F v) ≤ B) : (tD n F cn).natAbs ≤ B ^ (n + 1) :=
  Nat.le_trans (dt_le _ _) (dt_pr_pow (fun i _ => tb_nm hB hF i))
theorem sx_abs (h : e = 1 ∨ e = -1) (a : Int) : (e * a).natAbs = a.natAbs := by
  rcases h with h | h <;> subst h
  · rw [Int.one_mul]
  · rw [Int.neg_one_mul, Int.natAbs_neg]
/-- no cell is large -/
theorem sx_le (h : sxT n F M nm cn e t one) {B : Nat} (hB : 1 ≤ B) (hF : ∀ v, dt_nm (n + 1) (F v) ≤ B) : one.natAbs ≤ B ^ (n + 1) ∧ ∀ i, i < M → ∀ j, j < n + 1 → (t i j).natAbs ≤ B ^ (n + 1) := by
  obtain ⟨he, h1, -, h2⟩ := h
  refine ⟨?_, fun i hi j hj => ?_⟩
  · rw [h1, sx_abs he]; exact tD_le hB hF
  · rw [h2 i hi j hj, sx_abs he]; exact tT_le hB hF _ _
/-- the table of the forms themselves -/
theorem sx_first (hF : ∀ v, v < n → ∀ c, c < n + 1 → F v c = if v = c then 1 else 0) (ht : ∀ i, i < M → ∀ j, j < n + 1 → t i j = F (nm i) j) (hc : ∀ j, j < n → cn j = j) : sxT n F M nm cn 1 t 1 := by
  have e0 : ∀ a, a < n + 1 → ∀ b, b < n + 1 → tb n F cn a b = if a = b then 1 else 0 := by
    intro a ha b hb
    unfold tb
    by_cases q : a < n
    · rw [if_pos q, hc a q, hF a q b hb]
    · rw [if_neg q]
      by_cases w : b = n
      · rw [if_pos w, if_pos (by omega)]
      · rw [if_neg w, if_neg (by omega)]
  have eD : tD n F cn = 1 := (dt_congr (fun a ha b hb => e0 a ha b hb)).trans (dt_unit (n + 1))
  refine ⟨Or.inl rfl, by rw [eD]; rfl, by decide, fun i hi j hj => ?_⟩
  rw [ht i hi j hj, Int.one_mul]
  have h := dt_cramer (n + 1) (tb n F cn) (F (nm i)) j hj
  have h2 : dt (n + 1) (tb n F cn) = 1 := eD
  rw [h2, Int.mul_one, dt_sum_one hj (fun a ha q => by rw [e0 a ha j hj, if_neg q, Int.zero_mul]), e0 j hj j hj, if_pos rfl, Int.one_mul] at h
  exact h
/-! over the rationals -/
theorem ra_pos {y : Int} (hy : 0 < y) : (0 : Rat) < (y : Rat) := by
  rw [← Rat.intCast_zero]; exact Rat.intCast_lt_intCast.mpr hy
theorem ra_mul {x y : Int} (hy : 0 < y) : (x : Rat) / (y : Rat) * (y : Rat) = (x : Rat) := by
  have h := ra_pos hy
  rw [Rat.div_def, Rat.mul_assoc, Rat.inv_mul_cancel _ (by grind), Rat.mul_one]
theorem ra_eq {x y : Int} (hy : 0 < y) : (x : Rat) / (y : Rat) = 0 ↔ x = 0 := by
  have h := ra_mul (x := x) hy
  constructor
  · intro q
    rw [q, Rat.zero_mul] at h
    exact Rat.intCast_eq_zero_iff.mp h.symm
  · intro q
    rw [q, Rat.intCast_zero, Rat.div_def, Rat.zero_mul]
theorem ra_lt {x y : Int} (hy : 0 < y) : (x : Rat) / (y : Rat) < 0 ↔ x < 0 := by
  have h := ra_mul (x := x) hy
  have h1 := ra_pos hy
  generalize (x : Rat) / (y : Rat) = z at *
  have h2 : x < 0 ↔ (x : Rat) < 0 := by rw [← Rat.intCast_zero]; exact Rat.intCast_lt_intCast.symm
  rw [h2, ← h]
  constructor
  · intro q
    have := Rat.mul_lt_mul_of_pos_right q h1
    rw [Rat.zero_mul] at this
    exact this
  · intro q
    apply Classical.byContradiction
    intro w
    have w2 : 0 ≤ z := Rat.not_lt.mp w
    have := Rat.mul_nonneg w2 (Rat.le_of_lt h1)
    grind
theorem ra_le {x y : Int} (hy : 0 < y) : 0 ≤ (x : Rat) / (y : Rat) ↔ 0 ≤ x := by
  have h := ra_lt (x := x) hy
  constructor
  · intro q
    apply Int.not_lt.mp
    intro w
    have := h.mpr w
    grind
  · intro q
    apply Rat.not_lt.mp
    intro w
    have := h.mp w
    omega
theorem sx_tD (h : sxT n F M nm cn e t one) : tD n F cn ≠ 0 := by
  intro q
  have h1 := h.2.1
  have h2 := h.2.2.1
  rw [q, Int.mul_zero] at h1
  omega
theorem sx_rat (h : sxT n F M nm cn e t one) {i j : Nat} (hi : i < M) (hj : j < n + 1) : (tT n F cn (nm i) j : Rat) / (tD n F cn : Rat) = (t i j : Rat) / (one : Rat) := by
  have h1 := h.2.1
  rw [h.2.2.2 i hi j hj, h1]
  rcases h.1 with q | q <;> rw [q]
  · rw [Int.one_mul, Int.one_mul]
  · rw [Int.neg_one_mul, Int.neg_one_mul, Rat.intCast_neg, Rat.intCast_neg, Rat.div_def, Rat.div_def]
    have hD : (tD n F cn : Rat) ≠ 0 := fun q => sx_tD h (Rat.intCast_eq_zero_iff.mp q)
    generalize (tD n F cn : Rat) = b at *
    generalize (tT n F cn (nm i) j : Rat) = a at *
    have w1 := Rat.mul_inv_cancel b hD
    have w2 := Rat.mul_inv_cancel (-b) (by grind)
    grind
/-- the first that isn't 0 is below 0 -/
def sxN (K : Nat) (f : Nat → Int) : Prop := ∃ q, q < K ∧ (∀ p, p < q → f p = 0) ∧ f q < 0
theorem sxN_s {K : Nat} {f : Nat → Int} : sxN (K + 1) f ↔ f 0 < 0 ∨ (f 0 = 0 ∧ sxN K (fun q => f (q + 1))) := by
  constructor
  · rintro ⟨q, h1, h2, h3⟩
    rcases Nat.eq_zero_or_pos q with w | w
    · subst w; exact Or.inl h3
    · refine Or.inr ⟨h2 0 w, q - 1, by omega, fun p hp => h2 (p + 1) (by omega), ?_⟩
      show f (q - 1 + 1) < 0
      rw [Nat.sub_add_cancel w]; exact h3
  · rintro (h | ⟨h0, q, h1, h2, h3⟩)
    · exact ⟨0, by omega, fun p hp => absurd hp (Nat.not_lt_zero _), h⟩
    · refine ⟨q + 1, by omega, fun p hp => ?_, h3⟩
      rcases Nat.eq_zero_or_pos p with w | w
      · subst w; exact h0
      · have : f (p - 1 + 1) = 0 := h2 (p - 1) (by omega)
        rw [show p - 1 + 1 = p by omega] at this
        exact this
theorem sxN_neg {y : Int} (hy : 0 < y) : ∀ (K : Nat) (f : Nat → Int), bl_neg K (fun q => (f q : Rat) / (y : Rat)) ↔ sxN K f
  | 0, f => ⟨fun h => h.elim, fun ⟨q, h, _⟩ => absurd h (Nat.not_lt_zero _)⟩
  | K + 1, f => by
    rw [sxN_s]
    show ((f 0 : Rat) / (y : Rat) < 0 ∨ ((f 0 : Rat) / (y : Rat) = 0 ∧ bl_neg K (fun q => (f (q + 1) : Rat) / (y : Rat)))) ↔ _
    rw [ra_lt hy, ra_eq hy, sxN_neg hy K (fun q => f (q + 1))]
end SX
end
section
/-! runs of Bland's rule over tables in whole numbers -/
section SR
variable {n : Nat} {F : Nat → Nat → Int} {M R K A gone V m : Nat} {nm cn rn nm' cn' rn' : Nat → Nat} {e e' : Int} {t t' : Nat → Nat → Int} {one one' : Int}
def sxRun (n : Nat) (F : Nat → Nat → Int) (R K A gone V m : Nat) (cn rn : Nat → Nat) : Prop :=
  ∃ (CN RN : Nat → Nat → Nat) (S Q : Nat → Nat), bl_run (tX n F) (fun q x => x (A + q)) n R K gone V m CN RN (fun k i j => (tT n F (CN k) (RN k i) j : Rat) / (tD n F (CN k) : Rat)) (fun k i => (tT n F (CN k) (RN k i) n : Rat) / (tD n F (CN k) : Rat)) (fun k q j => (tT n F (CN k) (A + q) j : Rat) / (tD n F (CN k) : Rat)) (fun k q => (tT n F (CN k) (A + q) n : Rat) / (tD n F (CN k) : Rat)) S Q ∧ CN m = cn ∧ RN m = rn
theorem sxRun_0 (h : sxT n F M nm cn e t one) (hR : R ≤ M) (hrn : ∀ i, i < R → nm i = rn i) (hap : bl_apart n R cn rn) (hb : ∀ i, i < R → 0 ≤ t i n) (hV : ∀ j, j < n → cn j < V) : sxRun n F R K A gone V 0 cn rn := by
  refine ⟨fun _ => cn, fun _ => rn, fun _ => 0, fun _ => 0, ⟨fun k _ => tb_says (sx_tD h) R K A rn, fun k _ => hap, fun k _ i hi => ?_, fun k hk => absurd hk (Nat.not_lt_zero _), fun k hk => absurd hk (Nat.not_lt_zero _), fun k _ => hV⟩, rfl, rfl⟩
  show 0 ≤ (tT n F cn (rn i) n : Rat) / (tD n F cn : Rat)
  rw [← hrn i hi, sx_rat h (by omega) (by omega)]
  exact (ra_le h.2.2.1).mpr (hb i hi)
theorem sxRun_lt (h : sxRun n F R K A gone V m cn rn) : m < V ^ n := by
  obtain ⟨CN, RN, S, Q, h, -, -⟩ := h
  exact bl_finite h
theorem sxRun_s (h : sxRun n F R K A gone V m cn rn) (hT : sxT n F M nm cn e t one) (hR : R ≤ M) (hrn : ∀ i, i < R → nm i = rn i) (g : Nat → Nat) (hg : ∀ q, q < K → g q < M ∧ nm (g q) = A + q) {s r : Nat} (hs : s < n) (hgone : s ≠ gone) (hr : r < R) (h1 : sxN K (fun q => t (g q) s)) (h2 : ∀ j, j < n → j ≠ gone → sxN K (fun q => t (g q) j) → cn s ≤ cn j) (h3 : t r s < 0) (h4 : ∀ i, i < R → t i s < 0 → t r n = 0 → t i n = 0 → rn r ≤ rn i)
    (hT' : sxT n F M nm' cn' e' t' one') (hrn' : ∀ i, i < R → nm' i = rn' i) (hnx : bl_next n R cn rn cn' rn' s r) (hap : bl_apart n R cn' rn') (hb : ∀ i, i < R → 0 ≤ t' i n) (hV : ∀ j, j < n → cn' j < V) : sxRun n F R K A gone V (m + 1) cn' rn' := by
  obtain ⟨CN, RN, S, Q, hr0, rfl, rfl⟩ := h
  have hng : ∀ j, j < n + 1 → (bl_neg K (fun q => (tT n F (CN m) (A + q) j : Rat) / (tD n F (CN m) : Rat)) ↔ sxN K (fun q => t (g q) j)) := by
    intro j hj
    rw [← sxN_neg hT.2.2.1 K (fun q => t (g q) j)]
    have e0 : ∀ q, q < K → (tT n F (CN m) (A + q) j : Rat) / (tD n F (CN m) : Rat) = (t (g q) j : Rat) / (one : Rat) := by
      intro q hq
      rw [← (hg q hq).2]
      exact sx_rat hT (hg q hq).1 hj
    exact ⟨bl_neg_congr K e0, bl_neg_congr K (fun q hq => (e0 q hq).symm)⟩
  have ha : ∀ i, i < R → ∀ j, j < n + 1 → (tT n F (CN m) (RN m i) j : Rat) / (tD n F (CN m) : Rat) = (t i j : Rat) / (one : Rat) := by
    intro i hi j hj
    rw [← hrn i hi]
    exact sx_rat hT (by omega) hj
  have hrule : bl_rule n R K gone (CN m) (RN m) (fun i j => (tT n F (CN m) (RN m i) j : Rat) / (tD n F (CN m) : Rat)) (fun i => (tT n F (CN m) (RN m i) n : Rat) / (tD n F (CN m) : Rat)) (fun q j => (tT n F (CN m) (A + q) j : Rat) / (tD n F (CN m) : Rat)) s r := by
    refine ⟨hs, hgone, hr, (hng s (by omega)).mpr h1, fun j hj hjg hn => h2 j hj hjg ((hng j (by omega)).mp hn), ?_, fun i hi hi2 hb1 hb2 => ?_⟩
    · show (tT n F (CN m) (RN m r) s : Rat) / (tD n F (CN m) : Rat) < 0
      rw [ha r hr s (by omega)]
      exact (ra_lt hT.2.2.1).mpr h3
    · have hi2 : (tT n F (CN m) (RN m i) s : Rat) / (tD n F (CN m) : Rat) < 0 := hi2
      have hb1 : (tT n F (CN m) (RN m r) n : Rat) / (tD n F (CN m) : Rat) = 0 := hb1
      have hb2 : (tT n F (CN m) (RN m i) n : Rat) / (tD n F (CN m) : Rat) = 0 := hb2
      rw [ha i hi s (by omega)] at hi2
      rw [ha r hr n (by omega)] at hb1
      rw [ha i hi n (by omega)] at hb2
      exact h4 i hi ((ra_lt hT.2.2.1).mp hi2) ((ra_eq hT.2.2.1).mp hb1) ((ra_eq hT.2.2.1).mp hb2)
  have hnew := bl_run_s hr0 (cn' := cn') (rn' := rn') (tb_says (sx_tD hT') R K A rn') hap (fun i hi => by
    show 0 ≤ (tT n F cn' (rn' i) n : Rat) / (tD n F cn' : Rat)
    rw [← hrn' i hi, sx_rat hT' (by omega) (by omega)]
    exact (ra_le hT'.2.2.1).mpr (hb i hi)) hrule hnx hV
  refine ⟨fun k => if k ≤ m then CN k else cn', fun k => if k ≤ m then RN k else rn', fun k => if k < m then S k else s, fun k => if k < m then Q k else r, ?_, if_neg (by omega), if_neg (by omega)⟩
  have e1 : (fun k i j => (tT n F (if k ≤ m then CN k else cn') ((if k ≤ m then RN k else rn') i) j : Rat) / (tD n F (if k ≤ m then CN k else cn') : Rat)) = (fun k => if k ≤ m then (fun i j => (tT n F (CN k) (RN k i) j : Rat) / (tD n F (CN k) : Rat)) else (fun i j => (tT n F cn' (rn' i) j : Rat) / (tD n F cn' : Rat))) := by
    funext k; split <;> rfl
  have e2 : (fun k i => (tT n F (if k ≤ m then CN k else cn') ((if k ≤ m then RN k else rn') i) n : Rat) / (tD n F (if k ≤ m then CN k else cn') : Rat)) = (fun k => if k ≤ m then (fun i => (tT n F (CN k) (RN k i) n : Rat) / (tD n F (CN k) : Rat)) else (fun i => (tT n F cn' (rn' i) n : Rat) / (tD n F cn' : Rat))) := by
    funext k; split <;> rfl
  have e3 : (fun k q j => (tT n F (if k ≤ m then CN k else cn') (A + q) j : Rat) / (tD n F (if k ≤ m then CN k else cn') : Rat)) = (fun k => if k ≤ m then (fun q j => (tT n F (CN k) (A + q) j : Rat) / (tD n F (CN k) : Rat)) else (fun q j => (tT n F cn' (A + q) j : Rat) / (tD n F cn' : Rat))) := by
    funext k; split <;> rfl
  have e4 : (fun k q => (tT n F (if k ≤ m then CN k else cn') (A + q) n : Rat) / (tD n F (if k ≤ m then CN k else cn') : Rat)) = (fun k => if k ≤ m then (fun q => (tT n F (CN k) (A + q) n : Rat) / (tD n F (CN k) : Rat)) else (fun q => (tT n F cn' (A + q) n : Rat) / (tD n F cn' : Rat))) := by
    funext k; split <;> rfl
  rw [e1, e2, e3, e4]
  exact hnew
/-- names stay apart -/
theorem sx_apart {s r : Nat} (hs : s < n) (hr : r < R) (hap : bl_apart n R cn rn) (h : bl_next n R cn rn cn' rn' s r) : bl_apart n R cn' rn' := by
  obtain ⟨a1, a2, a3⟩ := hap
  obtain ⟨b1, b2⟩ := h
  refine ⟨fun i j hi hj q => ?_, fun i j hi hj q => ?_, fun i j hi hj q => ?_⟩
  · rw [b1 i hi, b1 j hj] at q
    by_cases w1 : i = s
    · by_cases w2 : j = s
      · omega
      · rw [if_pos w1, if_neg w2] at q
        exact absurd q (a3 r j hr hj)
    · by_cases w2 : j = s
      · rw [if_neg w1, if_pos w2] at q
        exact absurd q.symm (a3 r i hr hi)
      · rw [if_neg w1, if_neg w2] at q
        exact a1 i j hi hj q
  · rw [b2 i hi, b2 j hj] at q
    by_cases w1 : i = r
    · by_cases w2 : j = r
      · omega
      · rw [if_pos w1, if_neg w2] at q
        exact absurd q.symm (a3 j s hj hs)
    · by_cases w2 : j = r
      · rw [if_neg w1, if_pos w2] at q
        exact absurd q (a3 i s hi hs)
      · rw [if_neg w1, if_neg w2] at q
        exact a2 i j hi hj q
  · rw [b2 i hi, b1 j hj] at q
    by_cases w1 : i = r
    · by_cases w2 : j = s
      · rw [if_pos w1, if_pos w2] at q
        exact a3 r s hr hs q.symm
      · rw [if_pos w1, if_neg w2] at q
        exact w2 (a1 j s hj hs q.symm)
    · by_cases w2 : j = s
      · rw [if_neg w1, if_pos w2] at q
        exact w1 (a2 i r hi hr q)
      · rw [if_neg w1, if_neg w2] at q
        exact a3 i j hi hj q
/-- every name below V is a column's or a row's -/
def sxAll (n R V : Nat) (cn rn : Nat → Nat) : Prop := (∀ v, v < V → bl_nb n cn v ∨ bl_bs R rn v) ∧ (∀ j, j < n → cn j < V) ∧ ∀ i, i < R → rn i < V
theorem sx_all {s r : Nat} (hs : s < n) (hr : r < R) (hap : bl_apart n R cn rn) (h : bl_next n R cn rn cn' rn' s r) (ha : sxAll n R V cn rn) : sxAll n R V cn' rn' := by
  refine ⟨fun v hv => ?_, fun j hj => ?_, fun i hi => ?_⟩
  · rw [bl_nb_next hs hr hap h v, bl_bs_next hs hr hap h v]
    by_cases q1 : rn r = v
    · exact Or.inl (Or.inr q1)
    · by_cases q2 : cn s = v
      · exact Or.inr (Or.inr q2)
      · rcases ha.1 v hv with w | w
        · exact Or.inl (Or.inl ⟨w, q2⟩)
        · exact Or.inr (Or.inl ⟨w, q1⟩)
  · rw [h.1 j hj]
    split
    · exact ha.2.2 r hr
    · exact ha.2.1 j hj
  · rw [h.2 i hi]
    split
    · exact ha.2.1 s hs
    · exact ha.2.2 i hi
/-- the row that the least share chooses keeps all rows at 0 or above -/
theorem sx_feas {r s : Nat} (ho : 0 < one) (hr : r < R) (hb : ∀ i, i < R → 0 ≤ t i n) (hp : t r s < 0) (hq : ∀ i, i < R → t i s < 0 → t r n * - t i s ≤ t i n * - t r s)
    (h1 : ∀ i, i < R → i ≠ r → t' i n = sxS (t r s) * ((t r s * t i n - t i s * t r n) / one)) (h3 : t' r n = - (sxS (t r s) * t r n)) : ∀ i, i < R → 0 ≤ t' i n := by
  intro i hi
  have hS : sxS (t r s) = -1 := if_neg (by omega)
  by_cases q : i = r
  · subst q
    rw [h3, hS]
    have := hb i hi
    omega
  · rw [h1 i hi q, hS]
    have hle : t r s * t i n - t i s * t r n ≤ 0 := by
      have e1 : t r s * t i n ≤ 0 := Int.mul_nonpos_of_nonpos_of_nonneg (by omega) (hb i hi)
      by_cases w : t i s < 0
      · have e2 := hq i hi w
        rw [Int.mul_neg, Int.mul_neg, Int.mul_comm (t i n), Int.mul_comm (t r n)] at e2
        omega
      · have e2 : 0 ≤ t i s * t r n := Int.mul_nonneg (by omega) (hb r hr)
        omega
    have := Int.ediv_lt_of_lt_mul (a := t r s * t i n - t i s * t r n) (b := 1) ho (by omega)
    omega
/-- a column that makes the aims fall has a row that stops it -/
theorem sx_gives (hT : sxT n F M nm cn e t one) (hR : R ≤ M) (hrn : ∀ i, i < R → nm i = rn i) (g : Nat → Nat) (hg : ∀ q, q < K → g q < M ∧ nm (g q) = A + q) (hb : ∀ i, i < R → 0 ≤ t i n) (hF : ∀ v, v < n → ∀ c, c < n + 1 → F v c = if v = c then 1 else 0) (hpos : ∀ q, q < K → ∀ c, c < n + 1 → 0 ≤ F (A + q) c) (hV : n ≤ V) (hall : sxAll n R V cn rn) {s : Nat} (hs : s < n) (hc : sxN K (fun q => t (g q) s)) : ∃ i, i < R ∧ t i s < 0 := by
  have hng : bl_neg K (fun q => (tT n F cn (A + q) s : Rat) / (tD n F cn : Rat)) := by
    have h1 := (sxN_neg hT.2.2.1 K (fun q => t (g q) s)).mpr hc
    refine bl_neg_congr K (fun q hq => ?_) h1
    show (t (g q) s : Rat) / (one : Rat) = (tT n F cn (A + q) s : Rat) / (tD n F cn : Rat)
    rw [← (hg q hq).2]
    exact (sx_rat hT (hg q hq).1 (by omega)).symm
  have hb2 : ∀ i, i < R → (0 : Rat) ≤ (tT n F cn (rn i) n : Rat) / (tD n F cn : Rat) := by
    intro i hi
    rw [← hrn i hi, sx_rat hT (by omega) (by omega)]
    exact (ra_le hT.2.2.1).mpr (hb i hi)
  obtain ⟨i, hi, h⟩ := bl_gives (tb_says (sx_tD hT) R K A rn) hb2 (fun x hx hx1 hx2 q hq => by
    obtain ⟨y, hy, hv⟩ := hx
    have hyc : ∀ c, c < n → 0 ≤ y c := by
      intro c hc
      have e1 : x c = y c := by
        rw [hv c, bl_sum_one (s := c) (by omega) (fun d hd w => by rw [hF c hc d hd, if_neg (fun e => w e.symm), Rat.intCast_zero, Rat.zero_mul]), hF c hc c (by omega), if_pos rfl, Rat.intCast_one, Rat.one_mul]
      rw [← e1]
      rcases hall.1 c (by omega) with ⟨j, hj, w⟩ | ⟨i, hi, w⟩
      · rw [← w]; exact hx1 j hj
      · rw [← w]; exact hx2 i hi
    show 0 ≤ x (A + q)
    rw [hv (A + q)]
    have hsum : ∀ k, k ≤ n + 1 → 0 ≤ bl_sum k (fun c => (F (A + q) c : Rat) * y c) := by
      intro k
      induction k with
      | zero => intro _; exact Rat.le_refl
      | succ k ih =>
        intro hk
        rw [bl_sum_s]
        have h1 := ih (by omega)
        have h2 : (0 : Rat) ≤ (F (A + q) k : Rat) := by
          rw [← Rat.intCast_zero]; exact Rat.intCast_le_intCast.mpr (hpos q hq k (by omega))
        have h3 : 0 ≤ y k := by
          by_cases w : k < n
          · exact hyc k w
          · rw [show k = n by omega, hy]; grind
        have h4 := Rat.mul_nonneg h2 h3
        grind
    exact hsum (n + 1) (Nat.le_refl _)) hs hng
  refine ⟨i, hi, ?_⟩
  have h : (tT n F cn (rn i) s : Rat) / (tD n F cn : Rat) < 0 := h
  rw [← hrn i hi, sx_rat hT (by omega) (by omega)] at h
  exact (ra_lt hT.2.2.1).mp h
end SR
end
section
/-! the reference's cells: 42 a row, the whole number in column 41, the common number in cell 3997; what an exchange does to them -/
abbrev isC (un j : Nat) : Prop := j ≤ un ∨ j = 41
theorem isC_lt {un j : Nat} (hu : un ≤ 40) (h : isC un j) : j < 42 := by rcases h with h | h <;> omega
def rbV (r s i : Nat) (T : Nat → Int) (j : Nat) : Int := sxS (T (42 * r + s)) * ((T (42 * r + s) * T (42 * i + j) - T (42 * i + s) * T (42 * r + j)) / T 3997)
/-- row i after the columns below k -/
def rbT (un r s i k : Nat) (T : Nat → Int) : Nat → Int := fun c => if 42 * i ≤ c ∧ c < 42 * i + k ∧ isC un (c - 42 * i) ∧ c - 42 * i ≠ s then rbV r s i T (c - 42 * i) else T c
theorem rbT_0 (un r s i : Nat) (T : Nat → Int) : rbT un r s i 0 T = T := by
  funext c; exact if_neg (by omega)
theorem rbT_no {un r s i j : Nat} {T : Nat → Int} (h : ¬ (isC un j ∧ j ≠ s)) : rbT un r s i (j + 1) T = rbT un r s i j T := by
  funext c
  unfold rbT
  by_cases q : 42 * i ≤ c ∧ c < 42 * i + j ∧ isC un (c - 42 * i) ∧ c - 42 * i ≠ s
  · rw [if_pos q, if_pos ⟨q.1, by omega, q.2.2⟩]
  · rw [if_neg q, if_neg]
    rintro ⟨a, b, c1, d⟩
    by_cases w : c - 42 * i = j
    · rw [w] at c1 d; exact h ⟨c1, d⟩
    · exact q ⟨a, by omega, c1, d⟩
theorem rbT_s {un r s i j : Nat} {T : Nat → Int} (h1 : isC un j) (h2 : j ≠ s) : rbT un r s i (j + 1) T = va_up (rbT un r s i j T) (42 * i + j) (rbV r s i T j) := by
  funext c
  by_cases w : c = 42 * i + j
  · subst w
    rw [va_up_self]
    unfold rbT
    rw [if_pos ⟨by omega, by omega, by rw [show 42 * i + j - 42 * i = j by omega]; exact ⟨h1, h2⟩⟩, show 42 * i + j - 42 * i = j by omega]
  · rw [va_up_ne _ _ w]
    unfold rbT
    by_cases q : 42 * i ≤ c ∧ c < 42 * i + j ∧ isC un (c - 42 * i) ∧ c - 42 * i ≠ s
    · rw [if_pos q, if_pos ⟨q.1, by omega, q.2.2⟩]
    · rw [if_neg q, if_neg]
      rintro ⟨a, b, c1⟩
      exact q ⟨a, by omega, c1⟩
theorem rbT_out {un r s i k c : Nat} {T : Nat → Int} (h : c < 42 * i ∨ 42 * i + k ≤ c) : rbT un r s i k T c = T c := if_neg (by omega)
theorem rbT_col {un r s i k : Nat} {T : Nat → Int} : rbT un r s i k T (42 * i + s) = T (42 * i + s) := if_neg (by
  rintro ⟨-, -, -, q⟩
  exact q (by omega))
theorem rbT_in {un r s i k j : Nat} {T : Nat → Int} (hj : j < k) (h1 : isC un j) (h2 : j ≠ s) : rbT un r s i k T (42 * i + j) = rbV r s i T j := by
  unfold rbT
  rw [if_pos ⟨by omega, by omega, by rw [show 42 * i + j - 42 * i = j by omega]; exact ⟨h1, h2⟩⟩, show 42 * i + j - 42 * i = j by omega]
/-- row i, done -/
def rbF (un r s i : Nat) (T : Nat → Int) : Nat → Int := va_up (rbT un r s i 42 T) (42 * i + s) (sxS (T (42 * r + s)) * T (42 * i + s))
theorem rbF_out {un r s i c : Nat} {T : Nat → Int} (hs : s < 42) (h : c < 42 * i ∨ 42 * i + 42 ≤ c) : rbF un r s i T c = T c := by
  unfold rbF
  rw [va_up_ne _ _ (by omega), rbT_out h]
theorem rbF_col {un r s i : Nat} {T : Nat → Int} : rbF un r s i T (42 * i + s) = sxS (T (42 * r + s)) * T (42 * i + s) := va_up_self _ _ _
theorem rbF_in {un r s i j : Nat} {T : Nat → Int} (hj : j < 42) (h1 : isC un j) (h2 : j ≠ s) : rbF un r s i T (42 * i + j) = rbV r s i T j := by
  unfold rbF
  rw [va_up_ne _ _ (by omega), rbT_in hj h1 h2]
/-- the rows below k but r are done -/
def exK (un r s k : Nat) (T U : Nat → Int) : Prop := (∀ i, i < k → i ≠ r → U (42 * i + s) = sxS (T (42 * r + s)) * T (42 * i + s) ∧ ∀ j, isC un j → j ≠ s → U (42 * i + j) = rbV r s i T j) ∧ (∀ c, 42 * k ≤ c → U c = T c) ∧ ∀ c, 42 * r ≤ c → c < 42 * r + 42 → U c = T c
theorem exK_0 (un r s : Nat) (T : Nat → Int) : exK un r s 0 T T := ⟨fun i hi => absurd hi (Nat.not_lt_zero _), fun _ _ => rfl, fun _ _ _ => rfl⟩
theorem exK_r {un r s : Nat} {T U : Nat → Int} (h : exK un r s r T U) : exK un r s (r + 1) T U :=
  ⟨fun i hi hr => h.1 i (by omega) hr, fun c hc => h.2.1 c (by omega), h.2.2⟩
theorem exK_s {un r s k : Nat} {T U : Nat → Int} (hu : un ≤ 40) (hs : s < 42) (hk : k ≠ r) (hk2 : 42 * k + 42 ≤ 3990) (h : exK un r s k T U) : exK un r s (k + 1) T (rbF un r s k U) := by
  obtain ⟨h1, h2, h3⟩ := h
  have g1 : U (42 * r + s) = T (42 * r + s) := h3 _ (by omega) (by omega)
  have g2 : U (42 * k + s) = T (42 * k + s) := h2 _ (by omega)
  have g3 : U 3997 = T 3997 := h2 _ (by omega)
  refine ⟨fun i hi hr => ?_, fun c hc => ?_, fun c hc1 hc2 => ?_⟩
  · by_cases q : i = k
    · subst q
      refine ⟨by rw [rbF_col, g1, g2], fun j hj hjs => ?_⟩
      have hj2 := isC_lt hu hj
      rw [rbF_in hj2 hj hjs]
      unfold rbV
      rw [g1, g2, g3, h2 (42 * i + j) (by omega), h3 (42 * r + j) (by omega) (by omega)]
    · have h4 := h1 i (by omega) hr
      refine ⟨by rw [rbF_out hs (by omega)]; exact h4.1, fun j hj hjs => ?_⟩
      have hj2 := isC_lt hu hj
      rw [rbF_out hs (by omega)]
      exact h4.2 j hj hjs
  · rw [rbF_out hs (by omega)]
    exact h2 c (by omega)
  · rw [rbF_out hs (by omega)]
    exact h3 c hc1 hc2
/-- row r is turned about up to column k -/
def exQ (un r s k : Nat) (U W : Nat → Int) : Prop := (∀ j, j < k → isC un j → j ≠ s → W (42 * r + j) = - U (42 * r + j)) ∧ (∀ j, k ≤ j → j < 42 → W (42 * r + j) = U (42 * r + j)) ∧ W (42 * r + s) = U (42 * r + s) ∧ ∀ c, c < 42 * r ∨ 42 * r + 42 ≤ c → W c = U c
theorem exQ_0 (un r s : Nat) (U : Nat → Int) : exQ un r s 0 U U := ⟨fun j hj => absurd hj (Nat.not_lt_zero _), fun _ _ _ => rfl, rfl, fun _ _ => rfl⟩
theorem exQ_no {un r s k : Nat} {U W : Nat → Int} (h : exQ un r s k U W) (hk : ¬ (isC un k ∧ k ≠ s)) : exQ un r s (k + 1) U W :=
  ⟨fun j hj h1 h2 => by
    by_cases q : j = k
    · subst q; exact absurd ⟨h1, h2⟩ hk
    · exact h.1 j (by omega) h1 h2, fun j hj => h.2.1 j (by omega), h.2.2.1, h.2.2.2⟩
theorem exQ_s {un r s k : Nat} {U W : Nat → Int} (h : exQ un r s k U W) (h2 : k ≠ s) (hk : k < 42) : exQ un r s (k + 1) U (va_up W (42 * r + k) (- W (42 * r + k))) := by
  refine ⟨fun j hj h1 h3 => ?_, fun j hj hj2 => ?_, ?_, fun c hc => ?_⟩
  · by_cases q : j = k
    · subst q
      rw [va_up_self, h.2.1 j (Nat.le_refl _) hk]
    · rw [va_up_ne _ _ (by omega)]
      exact h.1 j (by omega) h1 h3
  · rw [va_up_ne _ _ (by omega)]
    exact h.2.1 j (by omega) hj2
  · rw [va_up_ne _ _ (by omega)]
    exact h.2.2.1
  · rw [va_up_ne _ _ (by omega)]
    exact h.2.2.2 c hc
/-- what an exchange does -/
def exOK (un M r s : Nat) (T W : Nat → Int) : Prop :=
  (∀ i, i < M → i ≠ r → ∀ j, isC un j → j ≠ s → W (42 * i + j) = sxS (T (42 * r + s)) * ((T (42 * r + s) * T (42 * i + j) - T (42 * i + s) * T (42 * r + j)) / T 3997)) ∧ (∀ i, i < M → i ≠ r → W (42 * i + s) = sxS (T (42 * r + s)) * T (42 * i + s)) ∧ (∀ j, isC un j → j ≠ s → W (42 * r + j) = - (sxS (T (42 * r + s)) * T (42 * r + j))) ∧ W (42 * r + s) = sxS (T (42 * r + s)) * T 3997 ∧ W 3997 = (T (42 * r + s)).natAbs ∧ ∀ c, 3990 ≤ c → c < 3997 → W c = T c
theorem exOK_of {un M r s : Nat} {T U W : Nat → Int} {x y : Int} (hu : un ≤ 40) (hs : s ≤ un) (hM : M ≤ 95) (hr : r < M) (h : exK un r s M T U) (h2 : (0 < T (42 * r + s) ∧ exQ un r s 42 U W) ∨ (¬ 0 < T (42 * r + s) ∧ W = U)) (hx : x = sxS (T (42 * r + s)) * T 3997) (hy : y = (T (42 * r + s)).natAbs) : exOK un M r s T (va_up (va_up W (42 * r + s) x) 3997 y) := by
  obtain ⟨g1, g2, g3⟩ := h
  have hW : ∀ c, c < 42 * r ∨ 42 * r + 42 ≤ c → W c = U c := by
    intro c hc
    rcases h2 with ⟨-, h2⟩ | ⟨-, h2⟩
    · exact h2.2.2.2 c hc
    · rw [h2]
  refine ⟨fun i hi hir j hj hjs => ?_, fun i hi hir => ?_, fun j hj hjs => ?_, ?_, ?_, fun c h1 h3 => ?_⟩
  · have hj2 := isC_lt hu hj
    rw [va_up_ne _ _ (by omega), va_up_ne _ _ (by omega), hW _ (by omega), (g1 i hi hir).2 j hj hjs]
    rfl
  · rw [va_up_ne _ _ (by omega), va_up_ne _ _ (by omega), hW _ (by omega), (g1 i hi hir).1]
  · have hj2 := isC_lt hu hj
    rw [va_up_ne _ _ (by omega), va_up_ne _ _ (by omega)]
    rcases h2 with ⟨hp, h2⟩ | ⟨hp, h2⟩
    · rw [h2.1 j hj2 hj hjs, g3 _ (by omega) (by omega)]
      unfold sxS
      rw [if_pos hp]
      omega
    · rw [h2, g3 _ (by omega) (by omega)]
      unfold sxS
      rw [if_neg hp]
      omega
  · rw [va_up_ne _ _ (by omega), va_up_self, hx]
  · rw [va_up_self, hy]
  · rw [va_up_ne _ _ (by omega), va_up_ne _ _ (by omega), hW _ (by omega), g2 _ (by omega)]
/-- the table in columns 0 .. un + 1 -/
def cj (un j : Nat) : Nat := if j ≤ un then j else 41
theorem cj_is (un j : Nat) : isC un (cj un j) := by
  unfold cj isC; split
  · exact Or.inl ‹_›
  · exact Or.inr rfl
theorem cj_ne {un j s : Nat} (hu : un ≤ 40) (hs : s ≤ un) (h : j ≠ s) : cj un j ≠ s := by
  unfold cj; split <;> omega
theorem cj_s {un s : Nat} (hs : s ≤ un) : cj un s = s := if_pos hs
theorem cj_n (un : Nat) : cj un (un + 1) = 41 := if_neg (by omega)
def tC (un : Nat) (T : Nat → Int) : Nat → Nat → Int := fun i j => T (42 * i + cj un j)
theorem tC_next {un M r s : Nat} {F : Nat → Nat → Int} {nm cn nm' cn' : Nat → Nat} {e : Int} {T W : Nat → Int} (hu : un ≤ 40) (hs : s ≤ un) (hr : r < M) (h : sxT (un + 1) F M nm cn e (tC un T) (T 3997)) (hp : T (42 * r + s) ≠ 0) (hW : exOK un M r s T W) (hn : ∀ i, i < M → nm' i = if i = r then cn s else nm i) (hc : ∀ j, j < un + 1 → cn' j = if j = s then nm r else cn j) :
    sxT (un + 1) F M nm' cn' (sxS (T (42 * r + s)) * e) (tC un W) (W 3997) := by
  obtain ⟨g1, g2, g3, g4, g5, -⟩ := hW
  have e0 : tC un T r s = T (42 * r + s) := by unfold tC; rw [cj_s hs]
  have := sx_next h (r := r) (s := s) hr (by omega) (by rw [e0]; exact hp) hn hc (t' := tC un W)
    (fun i hi hir j hj hjs => by
      rw [e0]
      unfold tC
      rw [cj_s hs]
      exact g1 i hi hir _ (cj_is un j) (cj_ne hu hs hjs))
    (fun i hi hir => by
      rw [e0]
      unfold tC
      rw [cj_s hs]
      exact g2 i hi hir)
    (fun j hj hjs => by
      rw [e0]
      unfold tC
      exact g3 _ (cj_is un j) (cj_ne hu hs hjs))
    (by
      rw [e0]
      unfold tC
      rw [cj_s hs]
      exact g4)
  rw [e0] at this
  rw [g5]
  exact this
/-- what is divided leaves no rest, and is small -/
def exF (un M r s : Nat) (T : Nat → Int) : Prop := ∀ i, i < M → i ≠ r → ∀ j, isC un j → j ≠ s → ∃ z : Int, T (42 * r + s) * T (42 * i + j) - T (42 * i + s) * T (42 * r + j) = T 3997 * z ∧ z.natAbs < 65536 ^ 80
theorem isC_cj {un j : Nat} (h : isC un j) : ∃ j', j' < un + 2 ∧ cj un j' = j := by
  rcases h with h | h
  · exact ⟨j, by omega, if_pos h⟩
  · exact ⟨un + 1, by omega, by rw [h]; exact cj_n un⟩
theorem exF_of {un M r s : Nat} {F : Nat → Nat → Int} {nm cn : Nat → Nat} {e : Int} {T : Nat → Int} (hu : un ≤ 40) (hs : s ≤ un) (hr : r < M) (h : sxT (un + 1) F M nm cn e (tC un T) (T 3997)) (hF : ∀ v, dt_nm (un + 2) (F v) ≤ 65535) : exF un M r s T := by
  intro i hi hir j hj hjs
  obtain ⟨j', hj', rfl⟩ := isC_cj hj
  have hne : j' ≠ s := by
    intro q
    subst q
    exact hjs (cj_s hs)
  have h1 := sx_exact h (r := r) (s := s) (i := i) (j := j') hr (by omega) hi (by omega) hne (cn' := fun j => if j = s then nm r else cn j) (fun _ _ => rfl)
  unfold tC at h1
  rw [cj_s hs] at h1
  refine ⟨_, h1, ?_⟩
  rw [sx_abs h.1]
  have h2 := tT_le (n := un + 1) (F := F) (cn := fun j => if j = s then nm r else cn j) (B := 65535) (by decide) hF (nm i) j'
  have h3 : 65535 ^ (un + 1 + 1) ≤ 65535 ^ 80 := Nat.pow_le_pow_right (by decide) (by omega)
  have h4 : 65535 ^ 80 < 65536 ^ 80 := Nat.pow_lt_pow_left (by decide) (by decide)
  omega
end
section
/-! the reference's choices: which column comes, which row gives; a table with its names, and an exchange of it -/
def shL (rn : Nat → Nat) (a p : Nat → Int) (i x : Nat) : Prop := a i * p x < a x * p i ∨ (a i * p x = a x * p i ∧ rn i ≤ rn x)
theorem shr_le {a b c p q r : Int} (hp : 0 < p) (hq : 0 < q) (hr : 0 < r) (h1 : a * q ≤ b * p) (h2 : b * r ≤ c * q) : a * r ≤ c * p := by
  have e1 : a * q * r ≤ b * p * r := Int.mul_le_mul_of_nonneg_right h1 (by omega)
  have e2 : b * r * p ≤ c * q * p := Int.mul_le_mul_of_nonneg_right h2 (by omega)
  have e3 : b * p * r = b * r * p := by rw [Int.mul_assoc, Int.mul_comm p r, ← Int.mul_assoc]
  have e4 : (a * r) * q = a * q * r := by rw [Int.mul_assoc, Int.mul_comm r q, ← Int.mul_assoc]
  have e5 : (c * p) * q = c * q * p := by rw [Int.mul_assoc, Int.mul_comm p q, ← Int.mul_assoc]
  exact Int.le_of_mul_le_mul_right (by rw [e4, e5]; omega) hq
theorem shr_lt {a b c p q r : Int} (hp : 0 < p) (hq : 0 < q) (hr : 0 < r) (h : (a * q < b * p ∧ b * r ≤ c * q) ∨ (a * q ≤ b * p ∧ b * r < c * q)) : a * r < c * p := by
  have e3 : b * p * r = b * r * p := by rw [Int.mul_assoc, Int.mul_comm p r, ← Int.mul_assoc]
  have e4 : (a * r) * q = a * q * r := by rw [Int.mul_assoc, Int.mul_comm r q, ← Int.mul_assoc]
  have e5 : (c * p) * q = c * q * p := by rw [Int.mul_assoc, Int.mul_comm p q, ← Int.mul_assoc]
  rcases h with ⟨h1, h2⟩ | ⟨h1, h2⟩
  · have e1 : a * q * r < b * p * r := Int.mul_lt_mul_of_pos_right h1 hr
    have e2 : b * r * p ≤ c * q * p := Int.mul_le_mul_of_nonneg_right h2 (by omega)
    exact Int.lt_of_mul_lt_mul_right (by rw [e4, e5]; omega) (Int.le_of_lt hq)
  · have e1 : a * q * r ≤ b * p * r := Int.mul_le_mul_of_nonneg_right h1 (by omega)
    have e2 : b * r * p < c * q * p := Int.mul_lt_mul_of_pos_right h2 hp
    exact Int.lt_of_mul_lt_mul_right (by rw [e4, e5]; omega) (Int.le_of_lt hq)
theorem shL_trans {rn : Nat → Nat} {a p : Nat → Int} {i x y : Nat} (hi : 0 < p i) (hx : 0 < p x) (hy : 0 < p y) (h1 : shL rn a p i x) (h2 : shL rn a p x y) : shL rn a p i y := by
  unfold shL at *
  rcases h1 with h1 | ⟨h1, n1⟩
  · rcases h2 with h2 | ⟨h2, n2⟩
    · exact Or.inl (shr_lt hi hx hy (Or.inl ⟨h1, by omega⟩))
    · exact Or.inl (shr_lt hi hx hy (Or.inl ⟨h1, by omega⟩))
  · rcases h2 with h2 | ⟨h2, n2⟩
    · exact Or.inl (shr_lt hi hx hy (Or.inr ⟨by omega, h2⟩))
    · refine Or.inr ⟨?_, by omega⟩
      have e1 := shr_le hi hx hy (Int.le_of_eq h1) (Int.le_of_eq h2)
      have e2 := shr_le hy hx hi (Int.le_of_eq h2.symm) (Int.le_of_eq h1.symm)
      omega
/-- the row of the first k that gives -/
def gvO (T : Nat → Int) (rn : Nat → Nat) (s k : Nat) : Option Nat → Prop
  | none => ∀ i, i < k → ¬ T (42 * i + s) < 0
  | some r => r < k ∧ T (42 * r + s) < 0 ∧ ∀ i, i < k → T (42 * i + s) < 0 → shL rn (fun i => T (42 * i + 41)) (fun i => - T (42 * i + s)) r i
theorem gvO_0 (T : Nat → Int) (rn : Nat → Nat) (s : Nat) : gvO T rn s 0 none := fun _ h => absurd h (Nat.not_lt_zero _)
theorem gvO_no {T : Nat → Int} {rn : Nat → Nat} {s k : Nat} {b : Option Nat} (h : gvO T rn s k b) (hk : ¬ T (42 * k + s) < 0) : gvO T rn s (k + 1) b := by
  cases b with
  | none =>
    intro i hi
    by_cases q : i = k
    · subst q; exact hk
    · exact h i (by omega)
  | some r =>
    refine ⟨by have := h.1; omega, h.2.1, fun i hi hi2 => ?_⟩
    by_cases q : i = k
    · subst q; exact absurd hi2 hk
    · exact h.2.2 i (by omega) hi2
theorem gvO_first {T : Nat → Int} {rn : Nat → Nat} {s k : Nat} (h : gvO T rn s k none) (hk : T (42 * k + s) < 0) : gvO T rn s (k + 1) (some k) := by
  refine ⟨by omega, hk, fun i hi hi2 => ?_⟩
  by_cases q : i = k
  · subst q; exact Or.inr ⟨rfl, Nat.le_refl _⟩
  · exact absurd hi2 (h i (by omega))
theorem gvO_new {T : Nat → Int} {rn : Nat → Nat} {s k r : Nat} (h : gvO T rn s k (some r)) (hk : T (42 * k + s) < 0) (hn : shL rn (fun i => T (42 * i + 41)) (fun i => - T (42 * i + s)) k r) : gvO T rn s (k + 1) (some k) := by
  refine ⟨by omega, hk, fun i hi hi2 => ?_⟩
  by_cases q : i = k
  · subst q; exact Or.inr ⟨rfl, Nat.le_refl _⟩
  · exact shL_trans (by show 0 < - _; omega) (by show 0 < - _; have := h.2.1; omega) (by show 0 < - _; omega) hn (h.2.2 i (by omega) hi2)
theorem gvO_old {T : Nat → Int} {rn : Nat → Nat} {s k r : Nat} (h : gvO T rn s k (some r)) (hn : shL rn (fun i => T (42 * i + 41)) (fun i => - T (42 * i + s)) r k) : gvO T rn s (k + 1) (some r) := by
  refine ⟨by have := h.1; omega, h.2.1, fun i hi hi2 => ?_⟩
  by_cases q : i = k
  · subst q; exact hn
  · exact h.2.2 i (by omega) hi2
/-- the column of the first k that comes -/
def cmO (T : Nat → Int) (cn : Nat → Nat) (from9 many gone k : Nat) : Option Nat → Prop
  | none => ∀ j, j < k → j ≠ gone → ¬ sxN many (fun q => T (42 * (from9 + q) + j))
  | some s => s < k ∧ s ≠ gone ∧ sxN many (fun q => T (42 * (from9 + q) + s)) ∧ ∀ j, j < k → j ≠ gone → sxN many (fun q => T (42 * (from9 + q) + j)) → cn s ≤ cn j
theorem cmO_0 (T : Nat → Int) (cn : Nat → Nat) (a b c : Nat) : cmO T cn a b c 0 none := fun _ h => absurd h (Nat.not_lt_zero _)
theorem cmO_no {T : Nat → Int} {cn : Nat → Nat} {a m g k : Nat} {b : Option Nat} (h : cmO T cn a m g k b) (hk : k = g ∨ ¬ sxN m (fun q => T (42 * (a + q) + k))) : cmO T cn a m g (k + 1) b := by
  cases b with
  | none =>
    intro i hi hg
    by_cases q : i = k
    · subst q; exact hk.resolve_left hg
    · exact h i (by omega) hg
  | some r =>
    refine ⟨by have := h.1; omega, h.2.1, h.2.2.1, fun i hi hg hi2 => ?_⟩
    by_cases q : i = k
    · subst q; exact absurd hi2 (hk.resolve_left hg)
    · exact h.2.2.2 i (by omega) hg hi2
theorem cmO_first {T : Nat → Int} {cn : Nat → Nat} {a m g k : Nat} (h : cmO T cn a m g k none) (hg : k ≠ g) (hk : sxN m (fun q => T (42 * (a + q) + k))) : cmO T cn a m g (k + 1) (some k) := by
  refine ⟨by omega, hg, hk, fun i hi hig hi2 => ?_⟩
  by_cases q : i = k
  · subst q; exact Nat.le_refl _
  · exact absurd hi2 (h i (by omega) hig)
theorem cmO_new {T : Nat → Int} {cn : Nat → Nat} {a m g k s : Nat} (h : cmO T cn a m g k (some s)) (hg : k ≠ g) (hk : sxN m (fun q => T (42 * (a + q) + k))) (hn : cn k < cn s) : cmO T cn a m g (k + 1) (some k) := by
  refine ⟨by omega, hg, hk, fun i hi hig hi2 => ?_⟩
  by_cases q : i = k
  · subst q; exact Nat.le_refl _
  · have := h.2.2.2 i (by omega) hig hi2; omega
theorem cmO_old {T : Nat → Int} {cn : Nat → Nat} {a m g k s : Nat} (h : cmO T cn a m g k (some s)) (hn : ¬ cn k < cn s) : cmO T cn a m g (k + 1) (some s) := by
  refine ⟨by have := h.1; omega, h.2.1, h.2.2.1, fun i hi hig hi2 => ?_⟩
  by_cases q : i = k
  · subst q; omega
  · exact h.2.2.2 i (by omega) hig hi2
/-- a table with its names, all rows at 0 or above -/
def nmR (un rows : Nat) (rn : Nat → Nat) : Nat → Nat := fun i => if i < rows then rn i else un + 1 + i
def tabJ (un rows M : Nat) (F : Nat → Nat → Int) (cn rn : Nat → Nat) (T : Nat → Int) : Prop := (∃ e, sxT (un + 1) F M (nmR un rows rn) cn e (tC un T) (T 3997)) ∧ bl_apart (un + 1) rows cn rn ∧ sxAll (un + 1) rows (un + 1 + rows) cn rn
def tabI (un rows M : Nat) (F : Nat → Nat → Int) (cn rn : Nat → Nat) (T : Nat → Int) : Prop := tabJ un rows M F cn rn T ∧ ∀ i, i < rows → 0 ≤ T (42 * i + 41)
theorem tabJ_next {un rows M r s : Nat} {F : Nat → Nat → Int} {cn rn : Nat → Nat} {T W : Nat → Int} (hu : un ≤ 40) (hs : s ≤ un) (hr : r < rows) (hM : rows ≤ M) (h : tabJ un rows M F cn rn T) (hp : T (42 * r + s) ≠ 0) (hW : exOK un M r s T W) : tabJ un rows M F (va_up cn s (rn r)) (va_up rn r (cn s)) W ∧ bl_next (un + 1) rows cn rn (va_up cn s (rn r)) (va_up rn r (cn s)) s r := by
  obtain ⟨⟨e, h1⟩, h2, h3⟩ := h
  have nx : bl_next (un + 1) rows cn rn (va_up cn s (rn r)) (va_up rn r (cn s)) s r := by
    refine ⟨fun j hj => ?_, fun i hi => ?_⟩
    · by_cases q : j = s
      · rw [if_pos q, q, va_up_self]
      · rw [if_neg q, va_up_ne _ _ q]
    · by_cases q : i = r
      · rw [if_pos q, q, va_up_self]
      · rw [if_neg q, va_up_ne _ _ q]
  refine ⟨⟨⟨_, tC_next hu hs (by omega) h1 hp hW (fun i hi => ?_) (fun j hj => ?_)⟩, sx_apart (by omega) hr h2 nx, sx_all (by omega) hr h2 nx h3⟩, nx⟩
  · unfold nmR
    by_cases q : i < rows
    · rw [if_pos q, if_pos q]
      exact nx.2 i q
    · rw [if_neg q, if_neg q, if_neg (by omega)]
  · unfold nmR
    rw [if_pos hr]
    exact nx.1 j hj
theorem tabI_next {un rows M r s : Nat} {F : Nat → Nat → Int} {cn rn : Nat → Nat} {T W : Nat → Int} (hu : un ≤ 40) (hs : s ≤ un) (hr : r < rows) (hM : rows ≤ M) (h : tabI un rows M F cn rn T) (hg : gvO T rn s rows (some r)) (hW : exOK un M r s T W) : tabI un rows M F (va_up cn s (rn r)) (va_up rn r (cn s)) W := by
  have hp := hg.2.1
  refine ⟨(tabJ_next hu hs hr hM h.1 (by omega) hW).1, ?_⟩
  obtain ⟨e, h1⟩ := h.1.1
  have e41 : ∀ (X : Nat → Int) i, tC un X i (un + 1) = X (42 * i + 41) := fun X i => by unfold tC; rw [cj_n]
  have es : ∀ (X : Nat → Int) i, tC un X i s = X (42 * i + s) := fun X i => by unfold tC; rw [cj_s hs]
  have := sx_feas (n := un + 1) (R := rows) (t := tC un T) (t' := tC un W) (one := T 3997) (r := r) (s := s) h1.2.2.1 hr (fun i hi => by rw [e41]; exact h.2 i hi) (by rw [es]; exact hp)
    (fun i hi hi2 => by
      rw [es] at hi2
      rw [e41, e41, es, es]
      rcases hg.2.2 i hi hi2 with q | q
      · exact Int.le_of_lt q
      · exact Int.le_of_eq q.1)
    (fun i hi hir => by
      rw [e41, e41, e41, es, es]
      exact hW.1 i (by omega) hir 41 (Or.inr rfl) (by omega))
    (by
      rw [e41, e41, es]
      exact hW.2.2.1 41 (Or.inr rfl) (by omega))
  intro i hi
  have h5 := this i hi
  rw [e41] at h5
  exact h5
/-- one step of the rule -/
theorem tabI_run {un rows M r s K A gone m from9 : Nat} {F : Nat → Nat → Int} {cn rn : Nat → Nat} {T W : Nat → Int} (hu : un ≤ 40) (hs : s ≤ un) (hr : r < rows) (hM : rows ≤ M) (h : tabI un rows M F cn rn T) (hg : gvO T rn s rows (some r)) (hc : cmO T cn from9 K gone (un + 1) (some s)) (hA : ∀ q, q < K → from9 + q < M ∧ nmR un rows rn (from9 + q) = A + q) (hW : exOK un M r s T W) (hrun : sxRun (un + 1) F rows K A gone (un + 1 + rows) m cn rn) : sxRun (un + 1) F rows K A gone (un + 1 + rows) (m + 1) (va_up cn s (rn r)) (va_up rn r (cn s)) := by
  have hp := hg.2.1
  have hn := tabI_next hu hs hr hM h hg hW
  have nx := (tabJ_next hu hs hr hM h.1 (by omega) hW).2
  obtain ⟨e, h1⟩ := h.1.1
  obtain ⟨e', h1'⟩ := hn.1.1
  have e41 : ∀ (X : Nat → Int) i, tC un X i (un + 1) = X (42 * i + 41) := fun X i => by unfold tC; rw [cj_n]
  have ej : ∀ (X : Nat → Int) i j, j ≤ un → tC un X i j = X (42 * i + j) := fun X i j hj => by unfold tC; rw [cj_s hj]
  refine sxRun_s hrun h1 hM (fun i hi => if_pos hi) (fun q => from9 + q) hA (by omega) hc.2.1 hr ?_ (fun j hj hjg hn => ?_) (by rw [ej T r s hs]; exact hp) (fun i hi hi2 hb1 hb2 => ?_) h1' (fun i hi => if_pos hi) nx hn.1.2.1 (fun i hi => by rw [e41]; exact hn.2 i hi) (fun j hj => hn.1.2.2.2.1 j hj)
  · have := hc.2.2.1
    have e0 : (fun q => tC un T (from9 + q) s) = fun q => T (42 * (from9 + q) + s) := by funext q; exact ej T _ s hs
    rw [e0]; exact this
  · have e0 : (fun q => tC un T (from9 + q) j) = fun q => T (42 * (from9 + q) + j) := by funext q; exact ej T _ j (by omega)
    rw [e0] at hn
    exact hc.2.2.2 j hj hjg hn
  · rw [ej T i s hs] at hi2
    rw [e41] at hb1 hb2
    rcases hg.2.2 i hi hi2 with q | q
    · have q : T (42 * r + 41) * - T (42 * i + s) < T (42 * i + 41) * - T (42 * r + s) := q
      rw [hb1, hb2, Int.zero_mul, Int.zero_mul] at q
      exact absurd q (Int.lt_irrefl _)
    · exact q.2
theorem tabI_start {un rows M K A gone : Nat} {F : Nat → Nat → Int} {cn rn : Nat → Nat} {T : Nat → Int} (hM : rows ≤ M) (h : tabI un rows M F cn rn T) : sxRun (un + 1) F rows K A gone (un + 1 + rows) 0 cn rn := by
  obtain ⟨e, h1⟩ := h.1.1
  exact sxRun_0 h1 hM (fun i hi => if_pos hi) h.1.2.1 (fun i hi => by unfold tC; rw [cj_n]; exact h.2 i hi) (fun j hj => h.1.2.2.2.1 j hj)
/-- in the second phase some row gives -/
theorem tabI_gives {un rows M K gone s : Nat} {F : Nat → Nat → Int} {cn rn : Nat → Nat} {T : Nat → Int} (hM : rows + K ≤ M) (h : tabI un rows M F cn rn T) (hF : ∀ v, v < un + 1 → ∀ c, c < un + 2 → F v c = if v = c then 1 else 0) (hpos : ∀ q, q < K → ∀ c, c < un + 2 → 0 ≤ F (un + 1 + rows + q) c) (hc : cmO T cn rows K gone (un + 1) (some s)) : ∃ i, i < rows ∧ T (42 * i + s) < 0 := by
  obtain ⟨e, h1⟩ := h.1.1
  have hs : s ≤ un := by have := hc.1; omega
  have ej : ∀ (X : Nat → Int) i j, j ≤ un → tC un X i j = X (42 * i + j) := fun X i j hj => by unfold tC; rw [cj_s hj]
  have := sx_gives (n := un + 1) (R := rows) (K := K) (A := un + 1 + rows) (V := un + 1 + rows) (rn := rn) h1 (by omega) (fun i hi => if_pos hi) (fun q => rows + q) (fun q hq => ⟨by omega, by unfold nmR; rw [if_neg (by omega)]; omega⟩) (fun i hi => by unfold tC; rw [cj_n]; exact h.2 i hi) hF hpos (by omega) h.1.2.2 (s := s) (by omega) (by
    have e0 : (fun q => tC un T (rows + q) s) = fun q => T (42 * (rows + q) + s) := by funext q; exact ej T _ s hs
    rw [e0]; exact hc.2.2.1)
  obtain ⟨i, hi, h2⟩ := this
  rw [ej T i s hs] at h2
  exact ⟨i, hi, h2⟩
/-- the first exchange of the first phase -/
theorem tabI_enter {un rows M r : Nat} {F : Nat → Nat → Int} {cn rn : Nat → Nat} {T W : Nat → Int} (hu : un ≤ 40) (hr : r < rows) (hM : rows ≤ M) (h : tabJ un rows M F cn rn T) (h1 : T 3997 = 1) (hone : ∀ i, i < rows → T (42 * i) = 1) (hworst : T (42 * r + 41) < 0 ∧ ∀ i, i < rows → T (42 * r + 41) ≤ T (42 * i + 41)) (hW : exOK un M r 0 T W) : tabI un rows M F (va_up cn 0 (rn r)) (va_up rn r (cn 0)) W := by
  have e0 : T (42 * r + 0) = 1 := hone r hr
  refine ⟨(tabJ_next hu (by omega) hr hM h (by rw [e0]; decide) hW).1, fun i hi => ?_⟩
  have hS : sxS (T (42 * r + 0)) = 1 := by rw [e0]; rfl
  by_cases q : i = r
  · subst q
    rw [hW.2.2.1 41 (Or.inr rfl) (by omega), hS]
    omega
  · rw [hW.1 i (by omega) q 41 (Or.inr rfl) (by omega), hS, e0, h1, Int.ediv_one, Int.one_mul, Int.one_mul, show 42 * i + 0 = 42 * i from rfl, hone i hi, Int.one_mul]
    have := hworst.2 i hi
    omega
end
section
/-! the forms that the reference lays: unknowns, conditions, aims -/
def rfF (un rows h fst tk : Nat) (sm : Nat → Int) : Nat → Nat → Int := fun v c =>
  if v < un + 1 then (if v = c then 1 else 0)
  else if v < un + 1 + rows then (if c = 0 then (h : Int) else if c = un + 1 then sm (41 * (v - (un + 1)) + 40) else if c ≤ un then sm (41 * (v - (un + 1)) + (c - 1)) else 0)
  else if v = un + 1 + rows then (if fst + 1 ≤ c ∧ c ≤ fst + tk + 1 then 1 else 0)
  else if v ≤ un + 1 + rows + tk + 1 then (if c = fst + (v - (un + 1 + rows)) then 1 else 0) else 0
theorem rfF_unit {un rows h fst tk : Nat} {sm : Nat → Int} : ∀ v, v < un + 1 → ∀ c, c < un + 2 → rfF un rows h fst tk sm v c = if v = c then 1 else 0 := fun v hv c _ => if_pos hv
theorem rfF_pos {un rows h fst tk : Nat} {sm : Nat → Int} (q : Nat) (c : Nat) : 0 ≤ rfF un rows h fst tk sm (un + 1 + rows + q) c := by
  unfold rfF
  rw [if_neg (by omega), if_neg (by omega)]
  split
  · split <;> decide
  · split
    · split <;> decide
    · decide
theorem dt_nm_le {n : Nat} {f : Nat → Int} {B : Nat} (h : ∀ i, i < n → (f i).natAbs ≤ B) : dt_nm n f ≤ n * B := by
  induction n with
  | zero => show 0 ≤ _; omega
  | succ n ih =>
    rw [dt_nm_s, Nat.succ_mul]
    have := ih (fun i hi => h i (by omega))
    have := h n (by omega)
    omega
theorem dt_nm_congr {n : Nat} {f g : Nat → Int} (h : ∀ i, i < n → f i = g i) : dt_nm n f = dt_nm n g := by
  induction n with
  | zero => rfl
  | succ n ih => rw [dt_nm_s, dt_nm_s, ih (fun i hi => h i (by omega)), h n (by omega)]
theorem dt_nm_up {m n : Nat} (h : m ≤ n) (f : Nat → Int) : dt_nm m f ≤ dt_nm n f := by
  obtain ⟨d, rfl⟩ : ∃ d, n = m + d := ⟨n - m, by omega⟩
  clear h
  induction d with
  | zero => exact Nat.le_refl _
  | succ d ih => rw [← Nat.add_assoc, dt_nm_s]; omega
theorem rfF_nm {un rows h fst tk : Nat} {sm : Nat → Int} (hu : un ≤ 40) (hh : h ≤ 1) (hs : ∀ i, i < rows → dt_nm 41 (fun j => sm (41 * i + j)) ≤ 65000) (v : Nat) : dt_nm (un + 2) (rfF un rows h fst tk sm v) ≤ 65535 := by
  by_cases q1 : v < un + 1
  · have := dt_nm_le (n := un + 2) (f := rfF un rows h fst tk sm v) (B := 1) (fun c _ => by
      unfold rfF
      rw [if_pos q1]
      split <;> decide)
    omega
  · by_cases q2 : v < un + 1 + rows
    · have e : ∀ c, rfF un rows h fst tk sm v c = (if c = 0 then (h : Int) else if c = un + 1 then sm (41 * (v - (un + 1)) + 40) else if c ≤ un then sm (41 * (v - (un + 1)) + (c - 1)) else 0) := fun c => by
        unfold rfF; rw [if_neg q1, if_pos q2]
      have h1 := hs (v - (un + 1)) (by omega)
      generalize v - (un + 1) = i at *
      rw [dt_nm_s, dt_nm_first, e, e, if_pos rfl, if_neg (by omega), if_pos rfl]
      rw [dt_nm_s] at h1
      have h2 : dt_nm un (fun i9 => rfF un rows h fst tk sm v (i9 + 1)) = dt_nm un (fun j => sm (41 * i + j)) := dt_nm_congr (fun j hj => by
        rw [e, if_neg (by omega), if_neg (by omega), if_pos (by omega), Nat.add_sub_cancel])
      have h3 := dt_nm_up hu (fun j => sm (41 * i + j))
      rw [h2]
      have h4 : ((h : Int)).natAbs = h := by omega
      rw [h4]
      omega
    · have := dt_nm_le (n := un + 2) (f := rfF un rows h fst tk sm v) (B := 1) (fun c _ => by
        unfold rfF
        rw [if_neg q1, if_neg q2]
        split
        · split <;> decide
        · split
          · split <;> decide
          · decide)
      omega
/-- the cells as they are laid -/
def layO (un rows h fst tk : Nat) (sm T : Nat → Int) : Prop := T 3997 = 1 ∧ (∀ i, i < rows → T (42 * i) = h ∧ (∀ j, j < un → T (42 * i + (j + 1)) = sm (41 * i + j)) ∧ T (42 * i + 41) = sm (41 * i + 40)) ∧ ∀ q, q < tk + 2 → ∀ j, isC un j → T (42 * (rows + q) + j) = if q = 0 then (if fst + 1 ≤ j ∧ j ≤ fst + tk + 1 ∧ j ≤ un then 1 else 0) else if j = fst + q then 1 else 0
theorem tabJ_first {un rows h fst tk : Nat} {sm T : Nat → Int} {cn rn : Nat → Nat} (hu : un ≤ 40) (hf : fst + tk + 1 ≤ un) (h0 : layO un rows h fst tk sm T) (hc : ∀ j, j < un + 1 → cn j = j) (hr : ∀ i, i < rows → rn i = un + 1 + i) : tabJ un rows (rows + (tk + 2)) (rfF un rows h fst tk sm) cn rn T := by
  obtain ⟨g1, g2, g3⟩ := h0
  refine ⟨⟨1, ?_⟩, ⟨fun i j hi hj q => ?_, fun i j hi hj q => ?_, fun i j hi hj q => ?_⟩, fun v hv => ?_, fun j hj => ?_, fun i hi => ?_⟩
  · rw [g1]
    refine sx_first rfF_unit (fun i hi j hj => ?_) hc
    unfold tC
    by_cases q : i < rows
    · have h1 := g2 i q
      have e : nmR un rows rn i = un + 1 + i := by unfold nmR; rw [if_pos q, hr i q]
      rw [e]
      unfold rfF
      rw [if_neg (by omega), if_pos (by omega), show un + 1 + i - (un + 1) = i by omega]
      by_cases q1 : j = 0
      · subst q1
        rw [if_pos rfl, cj_s (Nat.zero_le _)]
        exact h1.1
      · rw [if_neg q1]
        by_cases q2 : j = un + 1
        · subst q2
          rw [if_pos rfl, cj_n]
          exact h1.2.2
        · rw [if_neg q2, if_pos (by omega), cj_s (by omega)]
          have := h1.2.1 (j - 1) (by omega)
          rw [show j - 1 + 1 = j by omega] at this
          exact this
    · obtain ⟨p, rfl⟩ : ∃ p, i = rows + p := ⟨i - rows, by omega⟩
      have h1 := g3 p (by omega) (cj un j) (cj_is un j)
      have e : nmR un rows rn (rows + p) = un + 1 + rows + p := by unfold nmR; rw [if_neg q]; omega
      have eF : rfF un rows h fst tk sm (un + 1 + rows + p) j = if p = 0 then (if fst + 1 ≤ j ∧ j ≤ fst + tk + 1 then 1 else 0) else if j = fst + p then 1 else 0 := by
        unfold rfF
        rw [if_neg (by omega), if_neg (by omega)]
        by_cases q0 : p = 0
        · rw [if_pos (by omega), if_pos q0]
        · rw [if_neg (by omega), if_pos (by omega), if_neg q0, show un + 1 + rows + p - (un + 1 + rows) = p by omega]
      rw [e, h1, eF]
      by_cases q0 : p = 0
      · rw [if_pos q0, if_pos q0]
        by_cases q1 : j ≤ un
        · rw [cj_s q1]
          by_cases q2 : fst + 1 ≤ j ∧ j ≤ fst + tk + 1
          · rw [if_pos ⟨q2.1, q2.2, q1⟩, if_pos q2]
          · rw [if_neg (fun w => q2 ⟨w.1, w.2.1⟩), if_neg q2]
        · have : cj un j = 41 := if_neg q1
          rw [this, if_neg (by omega), if_neg (by omega)]
      · rw [if_neg q0, if_neg q0]
        by_cases q1 : j ≤ un
        · rw [cj_s q1]
        · have : cj un j = 41 := if_neg q1
          rw [this, if_neg (by omega), if_neg (by omega)]
  · rw [hc i hi, hc j hj] at q; exact q
  · rw [hr i hi, hr j hj] at q; omega
  · rw [hr i hi, hc j hj] at q; omega
  · by_cases q : v < un + 1
    · exact Or.inl ⟨v, q, hc v q⟩
    · exact Or.inr ⟨v - (un + 1), by omega, by rw [hr _ (by omega)]; omega⟩
  · rw [hc j hj]; omega
  · rw [hr i hi]; omega
end
section
/-! a long division: the loop over the quotient's digits -/
theorem dv_first {O : Nat → Nat} {n k9 V : Nat} (hlt : vl 65536 O (k9 + 1 + n) < 65536 ^ (k9 + 1) * V) : vl 65536 (fun i => O (k9 + i)) (n + 1) < 65536 * V := by
  have e : k9 + 1 + n = k9 + (n + 1) := by omega
  rw [e, vl_split, Nat.pow_succ] at hlt
  exact dv_R (X := 0) hlt (Nat.pow_pos (by decide))
theorem dv_next {O U qt : Nat → Nat} {n N k9 A V : Nat} (hk : k9 ≤ N) (hI : vl 65536 O (k9 + 1 + n) + vl 65536 (fun i => qt (k9 + 1 + i)) (N - k9) * (65536 ^ (k9 + 1) * V) = A) (hV : 0 < V) (hVn : V ≤ 65536 ^ n) (dO : ∀ i, i < k9 → O i < 65536) (hU : vl 65536 (fun i => U (k9 + i)) (n + 1) = vl 65536 (fun i => O (k9 + i)) (n + 1) % V) (hUo : ∀ i, i < k9 → U i = O i) :
    vl 65536 U (k9 + n) + vl 65536 (fun i => va_up qt k9 (vl 65536 (fun i => O (k9 + i)) (n + 1) / V) (k9 + i)) (N + 1 - k9) * (65536 ^ k9 * V) = A ∧ vl 65536 U (k9 + n) < 65536 ^ k9 * V := by
  have e : k9 + 1 + n = k9 + (n + 1) := by omega
  rw [e, vl_split] at hI
  have hLo : vl 65536 O k9 < 65536 ^ k9 := vl_lt k9 dO
  have hK : vl 65536 U (k9 + (n + 1)) = vl 65536 O k9 + vl 65536 (fun i => O (k9 + i)) (n + 1) % V * 65536 ^ k9 := by
    rw [vl_split, hU, vl_congr (h := O) k9 hUo]
  have hz : U (k9 + n) = 0 := by
    have h1 : vl 65536 (fun i => U (k9 + i)) (n + 1) < 65536 ^ n := by
      rw [hU]
      exact Nat.lt_of_lt_of_le (Nat.mod_lt _ hV) hVn
    rw [vl_s] at h1
    rcases Nat.eq_zero_or_pos (U (k9 + n)) with q | q
    · exact q
    · have := Nat.mul_le_mul_right (65536 ^ n) q
      omega
  have hK2 : vl 65536 U (k9 + (n + 1)) = vl 65536 U (k9 + n) := by
    rw [← Nat.add_assoc, vl_s, hz, Nat.zero_mul, Nat.add_zero]
  obtain ⟨g1, g2⟩ := dv_step (K1 := vl 65536 U (k9 + n)) hLo hI hV (by rw [← hK2]; exact hK)
  refine ⟨?_, g2⟩
  have e2 : N + 1 - k9 = 1 + (N - k9) := by omega
  have e3 : vl 65536 (fun i => va_up qt k9 (vl 65536 (fun i => O (k9 + i)) (n + 1) / V) (k9 + i)) (N + 1 - k9) = vl 65536 (fun i => O (k9 + i)) (n + 1) / V + vl 65536 (fun i => qt (k9 + 1 + i)) (N - k9) * 65536 := by
    generalize vl 65536 (fun i => O (k9 + i)) (n + 1) / V = x
    have e4 : vl 65536 (fun i => va_up qt k9 x (k9 + i)) 1 = x := by
      rw [show (1 : Nat) = 0 + 1 from rfl, vl_s, show vl 65536 (fun i => va_up qt k9 x (k9 + i)) 0 = 0 from rfl, Nat.add_zero, va_up_self, Nat.pow_zero]
      omega
    have e5 : vl 65536 (fun i => va_up qt k9 x (k9 + (1 + i))) (N - k9) = vl 65536 (fun i => qt (k9 + 1 + i)) (N - k9) := vl_congr _ (fun i _ => by
      rw [va_up_ne _ _ (by omega), Nat.add_assoc])
    rw [e2, vl_split, e4, e5, Nat.pow_one]
  rw [e3]
  exact g1
theorem dv_start {n N V j A : Nat} (hA : A < 65536 ^ (N + n)) (hV : 65536 ^ (n - 1) ≤ V) (hn : 1 ≤ n) : A * 2 ^ j < 65536 ^ (N + 1) * (V * 2 ^ j) := by
  have h1 : 65536 ^ (N + 1) * 65536 ^ (n - 1) ≤ 65536 ^ (N + 1) * V := Nat.mul_le_mul_left _ hV
  have h2 : 65536 ^ (N + 1) * 65536 ^ (n - 1) = 65536 ^ (N + n) := by rw [← Nat.pow_add]; congr 1; omega
  rw [← Nat.mul_assoc]
  exact Nat.mul_lt_mul_of_pos_right (by omega) (Nat.two_pow_pos j)
theorem dv_end {X Y A V j : Nat} (h : X + Y * (V * 2 ^ j) = A * 2 ^ j) (hX : X < V * 2 ^ j) : Y = A / V := by
  have h1 : A * 2 ^ j / (V * 2 ^ j) = A / V := Nat.mul_div_mul_right _ _ (Nat.two_pow_pos j)
  rw [← h1, ← h, Nat.add_mul_div_right _ _ (by omega), Nat.div_eq_of_lt hX, Nat.zero_add]
end
section
theorem dv_j {t j : Nat} (ht : 0 < t) (h : t * 2 ^ j < 65536) : j < 16 := by
  apply Nat.lt_of_not_le
  intro q
  have h1 : 2 ^ 16 ≤ 2 ^ j := Nat.pow_le_pow_right (by decide) q
  have h2 : 1 * 2 ^ j ≤ t * 2 ^ j := Nat.mul_le_mul_right _ ht
  omega
theorem dv_small {A B : Nat} (h : A < B) : 0 = A / B := (Nat.div_eq_of_lt h).symm
theorem dv_put {Q : Nat → Nat} {k9 v : Nat} (h : ∀ i, i < 170 → Q i < 65536) (hv : v < 65536) : ∀ i, i < 170 → va_up Q k9 v i < 65536 := by
  intro i hi
  by_cases q : i = k9
  · rw [q, va_up_self]; exact hv
  · rw [va_up_ne _ _ q]; exact h i hi
theorem dv_put0 {O : Nat → Nat} {N1 : Nat} (h : ∀ i, i < 170 → O i < 65536) : ∀ i, i < 170 → va_up O N1 0 i < 65536 := dv_put h (by decide)
theorem dv_put0v {O : Nat → Nat} {N1 : Nat} : vl 65536 (va_up O N1 0) (N1 + 1) = vl 65536 O N1 := by
  rw [vl_s, va_up_self, Nat.zero_mul, Nat.add_zero]
  exact vl_congr _ (fun i hi => va_up_ne _ _ (by omega))
theorem dv_A {A N j : Nat} (h : A < 65536 ^ N) (hj : j ≤ 16) : A * 2 ^ j < 65536 ^ (N + 1) := by
  have h1 : 2 ^ j ≤ 65536 := Nat.le_trans (Nat.pow_le_pow_right (by decide) hj) (show 2 ^ 16 ≤ 65536 by decide)
  rw [Nat.pow_succ]
  exact Nat.lt_of_lt_of_le (Nat.mul_lt_mul_of_pos_right h (Nat.two_pow_pos j)) (Nat.mul_le_mul_left _ h1)
theorem dv_q0 {O Q D g : Nat → Nat} {n N A j k9 : Nat} (hz : k9 = 0) (h1 : vl 65536 O (k9 + n) + vl 65536 (fun i => Q (k9 + i)) (N + 1 - k9) * (65536 ^ k9 * vl 65536 D n) = A * 2 ^ j) (h2 : vl 65536 O (k9 + n) < 65536 ^ k9 * vl 65536 D n) (hD : vl 65536 D n = vl 65536 g n * 2 ^ j) : vl 65536 Q (N + 1) = A / vl 65536 g n := by
  subst hz
  rw [Nat.pow_zero, Nat.one_mul, hD] at h1 h2
  have e : vl 65536 (fun i => Q (0 + i)) (N + 1 - 0) = vl 65536 Q (N + 1) := vl_congr _ (fun i _ => by rw [Nat.zero_add])
  rw [e] at h1
  exact dv_end h1 h2
theorem d_Mo_divide_0 : decode c_Mo_divide 0 = .ok (.aload_n 0, 1) := by decide +kernel
theorem d_Mo_divide_1 : decode c_Mo_divide 1 = .ok (.getfield 86, 3) := by decide +kernel
theorem d_Mo_divide_4 : decode c_Mo_divide 4 = .ok (.iload_n 1, 1) := by decide +kernel
theorem d_Mo_divide_5 : decode c_Mo_divide 5 = .ok (.iaload, 1) := by decide +kernel
theorem d_Mo_divide_6 : decode c_Mo_divide 6 = .ok (.istore_n 2, 1) := by decide +kernel
theorem d_Mo_divide_7 : decode c_Mo_divide 7 = .ok (.aload_n 0, 1) := by decide +kernel
theorem d_Mo_divide_8 : decode c_Mo_divide 8 = .ok (.getfield 286, 3) := by decide +kernel
theorem d_Mo_divide_11 : decode c_Mo_divide 11 = .ok (.iload_n 2, 1) := by decide +kernel
theorem d_Mo_divide_12 : decode c_Mo_divide 12 = .ok (.if_icmp .ge 9, 3) := by decide +kernel
theorem d_Mo_divide_15 : decode c_Mo_divide 15 = .ok (.aload_n 0, 1) := by decide +kernel
theorem d_Mo_divide_16 : decode c_Mo_divide 16 = .ok (.iconst 0, 1) := by decide +kernel
theorem d_Mo_divide_17 : decode c_Mo_divide 17 = .ok (.putfield 313, 3) := by decide +kernel
theorem d_Mo_divide_20 : decode c_Mo_divide 20 = .ok (.return_, 1) := by decide +kernel
theorem d_Mo_divide_21 : decode c_Mo_divide 21 = .ok (.iconst 0, 1) := by decide +kernel
theorem d_Mo_divide_22 : decode c_Mo_divide 22 = .ok (.istore_n 3, 1) := by decide +kernel
theorem d_Mo_divide_23 : decode c_Mo_divide 23 = .ok (.aload_n 0, 1) := by decide +kernel
theorem d_Mo_divide_24 : decode c_Mo_divide 24 = .ok (.getfield 83, 3) := by decide +kernel
theorem d_Mo_divide_27 : decode c_Mo_divide 27 = .ok (.iload_n 1, 1) := by decide +kernel
theorem d_Mo_divide_28 : decode c_Mo_divide 28 = .ok (.bipush 80, 2) := by decide +kernel
theorem d_Mo_divide_30 : decode c_Mo_divide 30 = .ok (.imul, 1) := by decide +kernel
theorem d_Mo_divide_31 : decode c_Mo_divide 31 = .ok (.iload_n 2, 1) := by decide +kernel
theorem d_Mo_divide_32 : decode c_Mo_divide 32 = .ok (.iadd, 1) := by decide +kernel
theorem d_Mo_divide_33 : decode c_Mo_divide 33 = .ok (.iconst 1, 1) := by decide +kernel
theorem d_Mo_divide_34 : decode c_Mo_divide 34 = .ok (.isub, 1) := by decide +kernel
theorem d_Mo_divide_35 : decode c_Mo_divide 35 = .ok (.iaload, 1) := by decide +kernel
theorem d_Mo_divide_36 : decode c_Mo_divide 36 = .ok (.istore 4, 2) := by decide +kernel
theorem d_Mo_divide_38 : decode c_Mo_divide 38 = .ok (.iload 4, 2) := by decide +kernel
theorem d_Mo_divide_40 : decode c_Mo_divide 40 = .ok (.iload_n 3, 1) := by decide +kernel
theorem d_Mo_divide_41 : decode c_Mo_divide 41 = .ok (.ishl, 1) := by decide +kernel
theorem d_Mo_divide_42 : decode c_Mo_divide 42 = .ok (.ldc_w 316, 3) := by decide +kernel
theorem d_Mo_divide_45 : decode c_Mo_divide 45 = .ok (.if_icmp .ge 9, 3) := by decide +kernel
theorem d_Mo_divide_48 : decode c_Mo_divide 48 = .ok (.iinc 3 1, 3) := by decide +kernel
theorem d_Mo_divide_51 : decode c_Mo_divide 51 = .ok (.goto (-13), 3) := by decide +kernel
theorem d_Mo_divide_54 : decode c_Mo_divide 54 = .ok (.aload_n 0, 1) := by decide +kernel
theorem d_Mo_divide_55 : decode c_Mo_divide 55 = .ok (.iload_n 1, 1) := by decide +kernel
theorem d_Mo_divide_56 : decode c_Mo_divide 56 = .ok (.iload_n 2, 1) := by decide +kernel
theorem d_Mo_divide_57 : decode c_Mo_divide 57 = .ok (.iload_n 3, 1) := by decide +kernel
theorem d_Mo_divide_58 : decode c_Mo_divide 58 = .ok (.invokevirtual 317, 3) := by decide +kernel
theorem d_Mo_divide_61 : decode c_Mo_divide 61 = .ok (.aload_n 0, 1) := by decide +kernel
theorem d_Mo_divide_62 : decode c_Mo_divide 62 = .ok (.getfield 93, 3) := by decide +kernel
theorem d_Mo_divide_65 : decode c_Mo_divide 65 = .ok (.aload_n 0, 1) := by decide +kernel
theorem d_Mo_divide_66 : decode c_Mo_divide 66 = .ok (.getfield 286, 3) := by decide +kernel
theorem d_Mo_divide_69 : decode c_Mo_divide 69 = .ok (.iconst 0, 1) := by decide +kernel
theorem d_Mo_divide_70 : decode c_Mo_divide 70 = .ok (.iastore, 1) := by decide +kernel
theorem d_Mo_divide_71 : decode c_Mo_divide 71 = .ok (.aload_n 0, 1) := by decide +kernel
theorem d_Mo_divide_72 : decode c_Mo_divide 72 = .ok (.iload_n 3, 1) := by decide +kernel
theorem d_Mo_divide_73 : decode c_Mo_divide 73 = .ok (.invokevirtual 320, 3) := by decide +kernel
theorem d_Mo_divide_76 : decode c_Mo_divide 76 = .ok (.aload_n 0, 1) := by decide +kernel
theorem d_Mo_divide_77 : decode c_Mo_divide 77 = .ok (.getfield 286, 3) := by decide +kernel
theorem d_Mo_divide_80 : decode c_Mo_divide 80 = .ok (.iload_n 2, 1) := by decide +kernel
theorem d_Mo_divide_81 : decode c_Mo_divide 81 = .ok (.isub, 1) := by decide +kernel
theorem d_Mo_divide_82 : decode c_Mo_divide 82 = .ok (.istore 5, 2) := by decide +kernel
theorem d_Mo_divide_84 : decode c_Mo_divide 84 = .ok (.iload 5, 2) := by decide +kernel
theorem d_Mo_divide_86 : decode c_Mo_divide 86 = .ok (.ifCond .lt 23, 3) := by decide +kernel
theorem d_Mo_divide_89 : decode c_Mo_divide 89 = .ok (.aload_n 0, 1) := by decide +kernel
theorem d_Mo_divide_90 : decode c_Mo_divide 90 = .ok (.getfield 99, 3) := by decide +kernel
theorem d_Mo_divide_93 : decode c_Mo_divide 93 = .ok (.iload 5, 2) := by decide +kernel
theorem d_Mo_divide_95 : decode c_Mo_divide 95 = .ok (.aload_n 0, 1) := by decide +kernel
theorem d_Mo_divide_96 : decode c_Mo_divide 96 = .ok (.iload 5, 2) := by decide +kernel
theorem d_Mo_divide_98 : decode c_Mo_divide 98 = .ok (.iload_n 2, 1) := by decide +kernel
theorem d_Mo_divide_99 : decode c_Mo_divide 99 = .ok (.invokevirtual 323, 3) := by decide +kernel
theorem d_Mo_divide_102 : decode c_Mo_divide 102 = .ok (.iastore, 1) := by decide +kernel
theorem d_Mo_divide_103 : decode c_Mo_divide 103 = .ok (.iinc 5 (-1), 3) := by decide +kernel
theorem d_Mo_divide_106 : decode c_Mo_divide 106 = .ok (.goto (-22), 3) := by decide +kernel
theorem d_Mo_divide_109 : decode c_Mo_divide 109 = .ok (.aload_n 0, 1) := by decide +kernel
theorem d_Mo_divide_110 : decode c_Mo_divide 110 = .ok (.aload_n 0, 1) := by decide +kernel
theorem d_Mo_divide_111 : decode c_Mo_divide 111 = .ok (.getfield 99, 3) := by decide +kernel
theorem d_Mo_divide_114 : decode c_Mo_divide 114 = .ok (.aload_n 0, 1) := by decide +kernel
theorem d_Mo_divide_115 : decode c_Mo_divide 115 = .ok (.getfield 286, 3) := by decide +kernel
theorem d_Mo_divide_118 : decode c_Mo_divide 118 = .ok (.iload_n 2, 1) := by decide +kernel
theorem d_Mo_divide_119 : decode c_Mo_divide 119 = .ok (.isub, 1) := by decide +kernel
theorem d_Mo_divide_120 : decode c_Mo_divide 120 = .ok (.iconst 1, 1) := by decide +kernel
theorem d_Mo_divide_121 : decode c_Mo_divide 121 = .ok (.iadd, 1) := by decide +kernel
theorem d_Mo_divide_122 : decode c_Mo_divide 122 = .ok (.invokestatic 278, 3) := by decide +kernel
theorem d_Mo_divide_125 : decode c_Mo_divide 125 = .ok (.putfield 313, 3) := by decide +kernel
theorem d_Mo_divide_128 : decode c_Mo_divide 128 = .ok (.return_, 1) := by decide +kernel
set_option maxRecDepth 100000 in
set_option maxHeartbeats 16000000 in
/-- divide(c0) -/
theorem g_Mo_divide (l : Launch) (G : va_G) (k : Nat → ClassId) (h0 : Nat) (s0 : Nat) (c0 : Nat) (N1 : Nat) (ma : Nat → Nat) (iv : Nat → Int32) (co : Int64) (dg : Nat → Nat) (sz : Nat → Nat) (O : Nat → Nat) (qt : Nat → Nat) (Dv : Nat → Nat) (kc : c0 < 3998) (hs : sz c0 ≤ 80) (hp : 0 < sz c0) (ht : dg (c0 * 80 + (sz c0 - 1)) ≠ 0) (hN : N1 ≤ 161) (hdg : ∀ i, i < 319840 → dg i < 65536) (dO : ∀ i, i < 170 → O i < 65536) (dQ : ∀ i, i < 170 → qt i < 65536) (dD : ∀ i, i < 170 → Dv i < 65536) : CV l y_Mo_divide c_Mo_divide 6 { frames := 1, cells := 0, slots := 0, locals := 33 } [.ref h0, .int (nI c0)] G k s0 [(h0, .inr (8, moL ma (va_up iv 19 (nI N1)) co)), ((ma 21), .inl (k 0, 319840, .inl (fun i => nI (dg i)))), ((ma 22), .inl (k 0, 3998, .inl (fun i => nI (sz i)))), ((ma 24), .inl (k 0, 170, .inl (fun i => nI (O i)))), ((ma 26), .inl (k 0, 170, .inl (fun i => nI (qt i)))), ((ma 27), .inl (k 0, 170, .inl (fun i => nI (Dv i))))] (fun (u : (Nat → Nat) × (Nat → Nat) × (Nat → Nat) × Nat) => vl 65536 u.2.1 u.2.2.2 = vl 65536 O N1 / vl 65536 (fun i => dg (c0 * 80 + i)) (sz c0) ∧ u.2.2.2 ≤ 161 ∧ (u.2.2.2 = 0 ∨ u.2.1 (u.2.2.2 - 1) ≠ 0) ∧ (∀ i, i < 170 → u.1 i < 65536) ∧ (∀ i, i < 170 → u.2.1 i < 65536) ∧ (∀ i, i < 170 → u.2.2.1 i < 65536)) (fun u => [(h0, .inr (8, moL ma (va_up (va_up iv 19 (nI N1)) 23 (nI u.2.2.2)) co)), ((ma 21), .inl (k 0, 319840, .inl (fun i => nI (dg i)))), ((ma 22), .inl (k 0, 3998, .inl (fun i => nI (sz i)))), ((ma 24), .inl (k 0, 170, .inl (fun i => nI (u.1 i)))), ((ma 26), .inl (k 0, 170, .inl (fun i => nI (u.2.1 i)))), ((ma 27), .inl (k 0, 170, .inl (fun i => nI (u.2.2.1 i))))]) 0 0 := by
  refine met_start (by decide) (Nat.le_of_ble_eq_true rfl) ?_
  intro p e s m below meth c C K hA hsz S ls hl
  generalize va_A [(h0, .inr (8, moL ma (va_up iv 19 (nI N1)) co)), ((ma 21), .inl (k 0, 319840, .inl (fun i => nI (dg i)))), ((ma 22), .inl (k 0, 3998, .inl (fun i => nI (sz i)))), ((ma 24), .inl (k 0, 170, .inl (fun i => nI (O i)))), ((ma 26), .inl (k 0, 170, .inl (fun i => nI (qt i)))), ((ma 27), .inl (k 0, 170, .inl (fun i => nI (Dv i))))] s0 = A at hA S ⊢
  have hx := C.1
  have hb := C.2.1
  have hl : lv_has ls 6 [(0, .ref h0), (1, .int (nI c0))] := hl
  have d1 : dg (c0 * 80 + sz c0 - 1) < 65536 := hdg _ (by omega)
  have tp : 0 < dg (c0 * 80 + sz c0 - 1) := by
    have e9 : c0 * 80 + sz c0 - 1 = c0 * 80 + (sz c0 - 1) := by omega
    rw [e9]
    exact Nat.pos_of_ne_zero ht
  refine lv_aload_n hx hb d_Mo_divide_0 rfl (lv_at hl 0 rfl) ?_
  refine r_get C K S 0 rfl rfl clOk_Mo 42 (by decide) wf_Mo_86 (v := .ref (ma 22)) rfl d_Mo_divide_1 ?_
  refine lv_iload_n hx hb d_Mo_divide_4 rfl (lv_at hl 1 rfl) ?_
  refine r_iald C K S 2 rfl (i := nI c0) (show vp_in (nI c0) _ from vp_in_nI (n := c0) (by omega) (by decide)) (v := nI (sz c0)) (by rw [nI_clamp (by omega)]) d_Mo_divide_5 ?_
  refine lv_istore_n (lv' := [(2, .int (nI (sz c0))), (0, .ref h0), (1, .int (nI c0))]) hx hb d_Mo_divide_6 rfl hl (by decide) rfl (fun ls hl => ?_)
  refine lv_aload_n hx hb d_Mo_divide_7 rfl (lv_at hl 1 rfl) ?_
  refine r_get C K S 0 rfl rfl clOk_Mo 48 (by decide) wf_Mo_286 (v := .int (nI N1)) rfl d_Mo_divide_8 ?_
  refine lv_iload_n hx hb d_Mo_divide_11 rfl (lv_at hl 0 rfl) ?_
  refine z_icmp_ge (a := N1) (b := (sz c0)) (tgt := 21) hx hb d_Mo_divide_12 (by decide) (by omega) (by omega) (fun hc1 => ?_) (fun hc1 => ?_)
  · refine lv_iconst (v := 0) hx hb d_Mo_divide_21 (by decide) ?_
    refine lv_istore_n (lv' := [(3, .int 0), (2, .int (nI (sz c0))), (0, .ref h0), (1, .int (nI c0))]) hx hb d_Mo_divide_22 rfl hl (by decide) rfl (fun ls hl => ?_)
    refine lv_aload_n hx hb d_Mo_divide_23 rfl (lv_at hl 2 rfl) ?_
    refine r_get C K S 0 rfl rfl clOk_Mo 41 (by decide) wf_Mo_83 (v := .ref (ma 21)) rfl d_Mo_divide_24 ?_
    refine lv_iload_n hx hb d_Mo_divide_27 rfl (lv_at hl 3 rfl) ?_
    refine lv_bipush (v := 80) hx hb d_Mo_divide_28 (by decide) ?_
    refine z_imul (x := nI c0) (y := 80) (v := nI (c0 * 80)) hx hb d_Mo_divide_30 (pk_mul c0 80) ?_
    refine lv_iload_n hx hb d_Mo_divide_31 rfl (lv_at hl 1 rfl) ?_
    refine z_iadd (x := nI (c0 * 80)) (y := nI (sz c0)) (v := nI (c0 * 80 + sz c0)) hx hb d_Mo_divide_32 (nI_add (c0 * 80) (sz c0)) ?_
    refine lv_iconst (v := 1) hx hb d_Mo_divide_33 (by decide) ?_
    refine z_isub (x := nI (c0 * 80 + sz c0)) (y := 1) (v := nI (c0 * 80 + sz c0 - 1)) hx hb d_Mo_divide_34 (pk_sub (a := (c0 * 80 + sz c0)) (b := 1) (by omega)) ?_
    refine r_iald C K S 1 rfl (i := nI (c0 * 80 + sz c0 - 1)) (show vp_in (nI (c0 * 80 + sz c0 - 1)) _ from vp_in_nI (n := (c0 * 80 + sz c0 - 1)) (by omega) (by decide)) (v := nI (dg (c0 * 80 + sz c0 - 1))) (by rw [nI_clamp (by omega)]) d_Mo_divide_35 ?_
    refine lv_istore (lv' := [(4, .int (nI (dg (c0 * 80 + sz c0 - 1)))), (3, .int 0), (2, .int (nI (sz c0))), (0, .ref h0), (1, .int (nI c0))]) hx hb d_Mo_divide_36 hl (by decide) rfl (fun ls hl => ?_)
    have lp : ∀ d9, ∀ (j : Nat), (20 - j) < d9 → (dg (c0 * 80 + sz c0 - 1) * 2 ^ j < 65536) → ∀ (H : Heap) (locs : List Loc), Sw G A s.heap H locs [(h0, .inr (8, moL ma (va_up iv 19 (nI N1)) co)), ((ma 21), .inl (k 0, 319840, .inl (fun i => nI (dg i)))), ((ma 22), .inl (k 0, 3998, .inl (fun i => nI (sz i)))), ((ma 24), .inl (k 0, 170, .inl (fun i => nI (O i)))), ((ma 26), .inl (k 0, 170, .inl (fun i => nI (qt i)))), ((ma 27), .inl (k 0, 170, .inl (fun i => nI (Dv i))))] → ∀ ls : Array Slot, lv_has ls 6 [(4, .int (nI (dg (c0 * 80 + sz c0 - 1)))), (3, .int (nI j)), (2, .int (nI (sz c0))), (1, .int (nI c0)), (0, .ref h0)] → W p l e { frames := 1, cells := 0, slots := 0, locals := 33 } s m [Value.ref h0, Value.int (nI c0)].toArray below meth c H locs 0 0 (MQ below (va_Qv (fun (u : (Nat → Nat) × (Nat → Nat) × (Nat → Nat) × Nat) => vl 65536 u.2.1 u.2.2.2 = vl 65536 O N1 / vl 65536 (fun i => dg (c0 * 80 + i)) (sz c0) ∧ u.2.2.2 ≤ 161 ∧ (u.2.2.2 = 0 ∨ u.2.1 (u.2.2.2 - 1) ≠ 0) ∧ (∀ i, i < 170 → u.1 i < 65536) ∧ (∀ i, i < 170 → u.2.1 i < 65536) ∧ (∀ i, i < 170 → u.2.2.1 i < 65536)) (Po G k A (fun u => [(h0, .inr (8, moL ma (va_up (va_up iv 19 (nI N1)) 23 (nI u.2.2.2)) co)), ((ma 21), .inl (k 0, 319840, .inl (fun i => nI (dg i)))), ((ma 22), .inl (k 0, 3998, .inl (fun i => nI (sz i)))), ((ma 24), .inl (k 0, 170, .inl (fun i => nI (u.1 i)))), ((ma 26), .inl (k 0, 170, .inl (fun i => nI (u.2.1 i)))), ((ma 27), .inl (k 0, 170, .inl (fun i => nI (u.2.2.1 i))))])) A) [Value.ref h0, Value.int (nI c0)].toArray s 0 0 A) (F0 m 38 ls []) := by
      intro d9
      induction d9 with
      | zero => intro j hm; exact absurd hm (Nat.not_lt_zero _)
      | succ d9 ih =>
        intro j hm hj H locs S ls hl
        have j16 : j < 16 := dv_j tp hj
        refine lv_iload hx hb d_Mo_divide_38 (lv_at hl 0 rfl) ?_
        refine lv_iload_n hx hb d_Mo_divide_40 rfl (lv_at hl 1 rfl) ?_
        refine z_ishl (v := nI (dg (c0 * 80 + sz c0 - 1) * 2 ^ j)) hx hb d_Mo_divide_41 (pk_shlN _ j (s_l9 j (by omega)) (by omega)) ?_
        refine lv_ldcw (v := 32768) hx hb C.2.2.2.1 (C.2.2.2.2.1 _ wk_Mo_316) d_Mo_divide_42 ?_
        refine z_icmp_ge (a := (dg (c0 * 80 + sz c0 - 1) * 2 ^ j)) (b := 32768) (tgt := 54) hx hb d_Mo_divide_45 (by decide) (by omega) (by omega) (fun hc2 => ?_) (fun hc2 => ?_)
        · skip
          have e9 : c0 * 80 + sz c0 - 1 = c0 * 80 + (sz c0 - 1) := by omega
          rw [e9] at hj
          have hsh := dv_shift (g := fun i => dg (c0 * 80 + i)) (n := sz c0) (j := j) hp (fun i hi => hdg _ (by omega)) hj (by omega)
          refine lv_aload_n hx hb d_Mo_divide_54 rfl (lv_at hl 4 rfl) ?_
          refine lv_iload_n hx hb d_Mo_divide_55 rfl (lv_at hl 3 rfl) ?_
          refine lv_iload_n hx hb d_Mo_divide_56 rfl (lv_at hl 2 rfl) ?_
          refine lv_iload_n hx hb d_Mo_divide_57 rfl (lv_at hl 1 rfl) ?_
          refine r_backv (wi := [(h0, .inr (8, moL ma (va_up iv 19 (nI N1)) co)), ((ma 21), .inl (k 0, 319840, .inl (fun i => nI (dg i)))), ((ma 27), .inl (k 0, 170, .inl (fun i => nI (Dv i))))]) (wr := [((ma 22), .inl (k 0, 3998, .inl (fun i => nI (sz i)))), ((ma 24), .inl (k 0, 170, .inl (fun i => nI (O i)))), ((ma 26), .inl (k 0, 170, .inl (fun i => nI (qt i))))]) S hA [0, 1, 5] [2, 3, 4] rfl rfl (by decide) (by decide) (va_runV (As := [.int (nI c0), .int (nI (sz c0)), .int (nI j)]) (rest := []) ⟨hx, hb, C.2.2.1, C.2.2.2.1, C.2.2.2.2.1⟩ (g_Mo_shiftInto l G k h0 _ c0 (sz c0) j ma (va_up iv 19 (nI N1)) co dg Dv (by first | assumption | omega) (by first | assumption | omega) (by first | assumption | omega) (by first | assumption | omega) dD) (k_virt (n := 3) C wc_Mo_shiftInto rfl rfl wz_Mo wm_Mo_317 wn_Mo_shiftInto ws_Mo_shiftInto (by decide +kernel) ⟨(Nat.le_of_ble_eq_true rfl), (Nat.le_of_ble_eq_true rfl)⟩) (pr_nowV K S [0, 1, 5] (by decide) rfl 0 rfl rfl) rfl rfl hl.1 rfl (lv_room (Nat.le_of_ble_eq_true rfl)) d_Mo_divide_58 ⟨(Nat.le_of_ble_eq_true rfl), (Nat.le_of_ble_eq_true rfl)⟩) (fun D H locs hw3 S => ?_)
          have S : Sw G A s.heap _ _ [((ma 22), .inl (k 0, 3998, .inl (fun i => nI (sz i)))), ((ma 24), .inl (k 0, 170, .inl (fun i => nI (O i)))), ((ma 26), .inl (k 0, 170, .inl (fun i => nI (qt i)))), (h0, .inr (8, moL ma (va_up iv 19 (nI N1)) co)), ((ma 21), .inl (k 0, 319840, .inl (fun i => nI (dg i)))), ((ma 27), .inl (k 0, 170, .inl (fun i => nI (D i))))] := S
          obtain ⟨⟨c9, hD1, -⟩, hD2, -⟩ := hw3
          have dO1 := dv_put0 (N1 := N1) dO
          refine lv_aload_n hx hb d_Mo_divide_61 rfl (lv_at hl 4 rfl) ?_
          refine r_get C K S 3 rfl rfl clOk_Mo 44 (by decide) wf_Mo_93 (v := .ref (ma 24)) rfl d_Mo_divide_62 ?_
          refine lv_aload_n hx hb d_Mo_divide_65 rfl (lv_at hl 4 rfl) ?_
          refine r_get C K S 3 rfl rfl clOk_Mo 48 (by decide) wf_Mo_286 (v := .int (nI N1)) rfl d_Mo_divide_66 ?_
          refine lv_iconst (v := 0) hx hb d_Mo_divide_69 (by decide) ?_
          refine r_iast C K S 1 rfl (i := nI N1) (x := 0) (show vp_in (nI N1) _ from vp_in_nI (n := N1) (by omega) (by decide)) (f' := fun i => nI (va_up O N1 0 i)) (ws' := [((ma 22), .inl (k 0, 3998, .inl (fun i => nI (sz i)))), ((ma 24), .inl (k 0, 170, .inl (fun i => nI (va_up O N1 0 i)))), ((ma 26), .inl (k 0, 170, .inl (fun i => nI (qt i)))), (h0, .inr (8, moL ma (va_up iv 19 (nI N1)) co)), ((ma 21), .inl (k 0, 319840, .inl (fun i => nI (dg i)))), ((ma 27), .inl (k 0, 170, .inl (fun i => nI (D i))))]) (show upd _ (nI N1 : Int32).toNatClampNeg 0 = _ from upd_nI O (j := N1) (by omega) 0) rfl d_Mo_divide_70 (fun H locs S => ?_)
          refine lv_aload_n hx hb d_Mo_divide_71 rfl (lv_at hl 4 rfl) ?_
          refine lv_iload_n hx hb d_Mo_divide_72 rfl (lv_at hl 1 rfl) ?_
          refine r_backv (wi := [(h0, .inr (8, moL ma (va_up iv 19 (nI N1)) co)), ((ma 24), .inl (k 0, 170, .inl (fun i => nI (va_up O N1 0 i))))]) (wr := [((ma 22), .inl (k 0, 3998, .inl (fun i => nI (sz i)))), ((ma 26), .inl (k 0, 170, .inl (fun i => nI (qt i)))), ((ma 21), .inl (k 0, 319840, .inl (fun i => nI (dg i)))), ((ma 27), .inl (k 0, 170, .inl (fun i => nI (D i))))]) S hA [3, 1] [0, 2, 4, 5] rfl rfl (by decide) (by decide) (va_runV (As := [.int (nI j)]) (rest := []) ⟨hx, hb, C.2.2.1, C.2.2.2.1, C.2.2.2.2.1⟩ (g_Mo_raise l G k h0 _ N1 j ma iv co (va_up O N1 0) (by omega) (by first | assumption | omega) dO1) (k_virt (n := 1) C wc_Mo_raise rfl rfl wz_Mo wm_Mo_320 wn_Mo_raise ws_Mo_raise (by decide +kernel) ⟨(Nat.le_of_ble_eq_true rfl), (Nat.le_of_ble_eq_true rfl)⟩) (pr_nowV K S [3, 1] (by decide) rfl 3 rfl rfl) rfl rfl hl.1 rfl (lv_room (Nat.le_of_ble_eq_true rfl)) d_Mo_divide_73 ⟨(Nat.le_of_ble_eq_true rfl), (Nat.le_of_ble_eq_true rfl)⟩) (fun R0 H locs hw4 S => ?_)
          have S : Sw G A s.heap _ _ [((ma 22), .inl (k 0, 3998, .inl (fun i => nI (sz i)))), ((ma 26), .inl (k 0, 170, .inl (fun i => nI (qt i)))), ((ma 21), .inl (k 0, 319840, .inl (fun i => nI (dg i)))), ((ma 27), .inl (k 0, 170, .inl (fun i => nI (D i)))), (h0, .inr (8, moL ma (va_up iv 19 (nI N1)) co)), ((ma 24), .inl (k 0, 170, .inl (fun i => nI (R0 i))))] := S
          obtain ⟨⟨c8, hR1, -⟩, hR2, -⟩ := hw4
          obtain ⟨-, hD3⟩ := no_carry hD1 hsh
          have hA0 : vl 65536 (va_up O N1 0) (N1 + 1) = vl 65536 O N1 := dv_put0v
          rw [hA0] at hR1
          have hA1 : vl 65536 O N1 < 65536 ^ N1 := vl_lt N1 (fun i hi => dO i (by omega))
          obtain ⟨-, hR3⟩ := no_carry hR1 (dv_A (j := j) hA1 (by omega))
          have hB1 : 65536 ^ (sz c0 - 1) ≤ vl 65536 (fun i => dg (c0 * 80 + i)) (sz c0) := vl_ge hp ht
          have hBp : 0 < vl 65536 (fun i => dg (c0 * 80 + i)) (sz c0) := Nat.lt_of_lt_of_le (Nat.pow_pos (by decide)) hB1
          have hVp : 0 < vl 65536 D (sz c0) := by rw [hD3]; exact Nat.mul_pos hBp (Nat.two_pow_pos j)
          have hVn : vl 65536 D (sz c0) ≤ 65536 ^ (sz c0) := by rw [hD3]; exact Nat.le_of_lt hsh
          have hDt : 0 < D (sz c0 - 1) := vl_top hp (fun i hi => hD2 i (by omega)) (by rw [hD3]; exact Nat.le_trans hB1 (Nat.le_mul_of_pos_right _ (Nat.two_pow_pos j)))
          refine lv_aload_n hx hb d_Mo_divide_76 rfl (lv_at hl 4 rfl) ?_
          refine r_get C K S 4 rfl rfl clOk_Mo 48 (by decide) wf_Mo_286 (v := .int (nI N1)) rfl d_Mo_divide_77 ?_
          refine lv_iload_n hx hb d_Mo_divide_80 rfl (lv_at hl 2 rfl) ?_
          refine z_isub (x := nI N1) (y := nI (sz c0)) (v := nI (N1 - (sz c0))) hx hb d_Mo_divide_81 (pk_sub (a := N1) (b := (sz c0)) (by omega)) ?_
          refine lv_istore (lv' := [(5, .int (nI (N1 - (sz c0)))), (4, .int (nI (dg (c0 * 80 + sz c0 - 1)))), (3, .int (nI j)), (2, .int (nI (sz c0))), (1, .int (nI c0)), (0, .ref h0)]) hx hb d_Mo_divide_82 hl (by decide) rfl (fun ls hl => ?_)
          refine lv_iload hx hb d_Mo_divide_84 (lv_at hl 0 rfl) ?_
          refine z_if_lt (a := (N1 - (sz c0))) (tgt := 109) hx hb d_Mo_divide_86 (by decide) (by omega) ?_
          have dl : ∀ d9, ∀ (k9 : Nat), ∀ (U : Nat → Nat), ∀ (Q : Nat → Nat), k9 < d9 → (k9 ≤ N1 - sz c0) → (vl 65536 U (k9 + 1 + sz c0) + vl 65536 (fun i => Q (k9 + 1 + i)) (N1 - sz c0 - k9) * (65536 ^ (k9 + 1) * vl 65536 D (sz c0)) = vl 65536 O N1 * 2 ^ j) → (vl 65536 U (k9 + 1 + sz c0) < 65536 ^ (k9 + 1) * vl 65536 D (sz c0)) → (∀ i, i < 170 → U i < 65536) → (∀ i, i < 170 → Q i < 65536) → ∀ (H : Heap) (locs : List Loc), Sw G A s.heap H locs [((ma 22), .inl (k 0, 3998, .inl (fun i => nI (sz i)))), ((ma 26), .inl (k 0, 170, .inl (fun i => nI (Q i)))), ((ma 21), .inl (k 0, 319840, .inl (fun i => nI (dg i)))), ((ma 27), .inl (k 0, 170, .inl (fun i => nI (D i)))), (h0, .inr (8, moL ma (va_up iv 19 (nI N1)) co)), ((ma 24), .inl (k 0, 170, .inl (fun i => nI (U i))))] → ∀ ls : Array Slot, lv_has ls 6 [(5, .int (nI k9)), (2, .int (nI (sz c0))), (1, .int (nI c0)), (0, .ref h0)] → W p l e { frames := 1, cells := 0, slots := 0, locals := 33 } s m [Value.ref h0, Value.int (nI c0)].toArray below meth c H locs 0 0 (MQ below (va_Qv (fun (u : (Nat → Nat) × (Nat → Nat) × (Nat → Nat) × Nat) => vl 65536 u.2.1 u.2.2.2 = vl 65536 O N1 / vl 65536 (fun i => dg (c0 * 80 + i)) (sz c0) ∧ u.2.2.2 ≤ 161 ∧ (u.2.2.2 = 0 ∨ u.2.1 (u.2.2.2 - 1) ≠ 0) ∧ (∀ i, i < 170 → u.1 i < 65536) ∧ (∀ i, i < 170 → u.2.1 i < 65536) ∧ (∀ i, i < 170 → u.2.2.1 i < 65536)) (Po G k A (fun u => [(h0, .inr (8, moL ma (va_up (va_up iv 19 (nI N1)) 23 (nI u.2.2.2)) co)), ((ma 21), .inl (k 0, 319840, .inl (fun i => nI (dg i)))), ((ma 22), .inl (k 0, 3998, .inl (fun i => nI (sz i)))), ((ma 24), .inl (k 0, 170, .inl (fun i => nI (u.1 i)))), ((ma 26), .inl (k 0, 170, .inl (fun i => nI (u.2.1 i)))), ((ma 27), .inl (k 0, 170, .inl (fun i => nI (u.2.2.1 i))))])) A) [Value.ref h0, Value.int (nI c0)].toArray s 0 0 A) (F0 m 89 ls []) := by
            intro d9
            induction d9 with
            | zero => intro k9 U Q hm; exact absurd hm (Nat.not_lt_zero _)
            | succ d9 ih =>
              intro k9 U Q hm hk hI hlt dU dQ2 H locs S ls hl
              have hfi := dv_first hlt
              refine lv_aload_n hx hb d_Mo_divide_89 rfl (lv_at hl 3 rfl) ?_
              refine r_get C K S 4 rfl rfl clOk_Mo 46 (by decide) wf_Mo_99 (v := .ref (ma 26)) rfl d_Mo_divide_90 ?_
              refine lv_iload hx hb d_Mo_divide_93 (lv_at hl 0 rfl) ?_
              refine lv_aload_n hx hb d_Mo_divide_95 rfl (lv_at hl 3 rfl) ?_
              refine lv_iload hx hb d_Mo_divide_96 (lv_at hl 0 rfl) ?_
              refine lv_iload_n hx hb d_Mo_divide_98 rfl (lv_at hl 1 rfl) ?_
              refine r_backi (wi := [(h0, .inr (8, moL ma (va_up iv 19 (nI N1)) co)), ((ma 24), .inl (k 0, 170, .inl (fun i => nI (U i)))), ((ma 27), .inl (k 0, 170, .inl (fun i => nI (D i))))]) (wr := [((ma 22), .inl (k 0, 3998, .inl (fun i => nI (sz i)))), ((ma 26), .inl (k 0, 170, .inl (fun i => nI (Q i)))), ((ma 21), .inl (k 0, 319840, .inl (fun i => nI (dg i))))]) S hA [4, 5, 3] [0, 1, 2] rfl rfl (by decide) (by decide) (va_runV (As := [.int (nI k9), .int (nI (sz c0))]) (rest := [.int (nI k9), .ref (ma 26)]) ⟨hx, hb, C.2.2.1, C.2.2.2.1, C.2.2.2.2.1⟩ (g_Mo_digit l G k h0 _ k9 (sz c0) ma (va_up iv 19 (nI N1)) co U D hp hs (by omega) dU hD2 hDt hfi) (k_virt (n := 2) C wc_Mo_digit rfl rfl wz_Mo wm_Mo_323 wn_Mo_digit ws_Mo_digit (by decide +kernel) ⟨(Nat.le_of_ble_eq_true rfl), (Nat.le_of_ble_eq_true rfl)⟩) (pr_nowV K S [4, 5, 3] (by decide) rfl 4 rfl rfl) rfl rfl hl.1 rfl (lv_room (Nat.le_of_ble_eq_true rfl)) d_Mo_divide_99 ⟨(Nat.le_of_ble_eq_true rfl), (Nat.le_of_ble_eq_true rfl)⟩) (fun r7 u5 H locs hw6 S => ?_)
              have S : Sw G A s.heap _ _ [((ma 22), .inl (k 0, 3998, .inl (fun i => nI (sz i)))), ((ma 26), .inl (k 0, 170, .inl (fun i => nI (Q i)))), ((ma 21), .inl (k 0, 319840, .inl (fun i => nI (dg i)))), (h0, .inr (8, moL ma (va_up iv 19 (nI N1)) co)), ((ma 24), .inl (k 0, 170, .inl (fun i => nI (u5 i)))), ((ma 27), .inl (k 0, 170, .inl (fun i => nI (D i))))] := S
              obtain ⟨hw60, hw3⟩ := hw6
              obtain rfl : r7 = nI (vl 65536 (fun i => U (k9 + i)) ((sz c0) + 1) / vl 65536 D (sz c0)) := hw60
              have hnx := dv_next (O := U) (U := u5) (qt := Q) (n := sz c0) (N := N1 - sz c0) (k9 := k9) hk hI hVp hVn (fun i hi => dU i (by omega)) hw3.1 (fun i hi => hw3.2.2 i (Or.inl hi))
              have hqd : vl 65536 (fun i => U (k9 + i)) (sz c0 + 1) / vl 65536 D (sz c0) < 65536 := (Nat.div_lt_iff_lt_mul hVp).mpr hfi
              have dQ3 := dv_put (Q := Q) (k9 := k9) dQ2 hqd
              refine r_iast C K S 1 rfl (i := nI k9) (x := nI (vl 65536 (fun i => U (k9 + i)) ((sz c0) + 1) / vl 65536 D (sz c0))) (show vp_in (nI k9) _ from vp_in_nI (n := k9) (by omega) (by decide)) (f' := fun i => nI (va_up Q k9 (vl 65536 (fun i => U (k9 + i)) ((sz c0) + 1) / vl 65536 D (sz c0)) i)) (ws' := [((ma 22), .inl (k 0, 3998, .inl (fun i => nI (sz i)))), ((ma 26), .inl (k 0, 170, .inl (fun i => nI (va_up Q k9 (vl 65536 (fun i => U (k9 + i)) ((sz c0) + 1) / vl 65536 D (sz c0)) i)))), ((ma 21), .inl (k 0, 319840, .inl (fun i => nI (dg i)))), (h0, .inr (8, moL ma (va_up iv 19 (nI N1)) co)), ((ma 24), .inl (k 0, 170, .inl (fun i => nI (u5 i)))), ((ma 27), .inl (k 0, 170, .inl (fun i => nI (D i))))]) (show upd _ (nI k9 : Int32).toNatClampNeg (nI (vl 65536 (fun i => U (k9 + i)) ((sz c0) + 1) / vl 65536 D (sz c0))) = _ from upd_nI Q (j := k9) (by omega) (vl 65536 (fun i => U (k9 + i)) ((sz c0) + 1) / vl 65536 D (sz c0))) rfl d_Mo_divide_102 (fun H locs S => ?_)
              rcases Nat.eq_zero_or_pos k9 with hz | hz
              · refine lv_iinc (v := (-1)) (lv' := [(5, .int (-1)), (2, .int (nI (sz c0))), (1, .int (nI c0)), (0, .ref h0)]) hx hb d_Mo_divide_103 hl (k := 0) rfl (by rw [hz]; decide) (by decide) rfl (fun ls hl => ?_)
                refine lv_goto (tgt := 84) hx hb d_Mo_divide_106 (by decide) ?_
                refine lv_iload hx hb d_Mo_divide_84 (lv_at hl 0 rfl) ?_
                refine lv_if_lt (tgt := 109) hx hb d_Mo_divide_86 (by decide) (fun _ => ?_) (fun hq => absurd (by decide) hq)
                refine lv_aload_n hx hb d_Mo_divide_109 rfl (lv_at hl 3 rfl) ?_
                refine lv_aload_n hx hb d_Mo_divide_110 rfl (lv_at hl 3 rfl) ?_
                refine r_get C K S 3 rfl rfl clOk_Mo 46 (by decide) wf_Mo_99 (v := .ref (ma 26)) rfl d_Mo_divide_111 ?_
                refine lv_aload_n hx hb d_Mo_divide_114 rfl (lv_at hl 3 rfl) ?_
                refine r_get C K S 3 rfl rfl clOk_Mo 48 (by decide) wf_Mo_286 (v := .int (nI N1)) rfl d_Mo_divide_115 ?_
                refine lv_iload_n hx hb d_Mo_divide_118 rfl (lv_at hl 1 rfl) ?_
                refine z_isub (x := nI N1) (y := nI (sz c0)) (v := nI (N1 - (sz c0))) hx hb d_Mo_divide_119 (pk_sub (a := N1) (b := (sz c0)) (by omega)) ?_
                refine lv_iconst (v := 1) hx hb d_Mo_divide_120 (by decide) ?_
                refine z_iadd (x := nI (N1 - (sz c0))) (y := 1) (v := nI ((N1 - (sz c0)) + 1)) hx hb d_Mo_divide_121 (nI_add (N1 - (sz c0)) 1) ?_
                refine r_backi (wi := [((ma 26), .inl (k 0, 170, .inl (fun i => nI (va_up Q k9 (vl 65536 (fun i => U (k9 + i)) ((sz c0) + 1) / vl 65536 D (sz c0)) i))))]) (wr := [((ma 22), .inl (k 0, 3998, .inl (fun i => nI (sz i)))), ((ma 21), .inl (k 0, 319840, .inl (fun i => nI (dg i)))), (h0, .inr (8, moL ma (va_up iv 19 (nI N1)) co)), ((ma 24), .inl (k 0, 170, .inl (fun i => nI (u5 i)))), ((ma 27), .inl (k 0, 170, .inl (fun i => nI (D i))))]) S hA [1] [0, 2, 3, 4, 5] rfl rfl (by decide) (by decide) (va_runS (As := [.ref (ma 26), .int (nI ((N1 - (sz c0)) + 1))]) (rest := [.ref h0]) ⟨hx, hb, C.2.2.1, C.2.2.2.1, C.2.2.2.2.1⟩ (k_Mo_cut2 l G k (ma 26) _ 170 ((N1 - (sz c0)) + 1) (fun i => nI (va_up Q k9 (vl 65536 (fun i => U (k9 + i)) ((sz c0) + 1) / vl 65536 D (sz c0)) i)) (by omega) (by decide)) (k_stat (n := 2) C wc_Mo_cut2 rfl rfl wz_Mo wm_Mo_278 wt_Mo_cut2 (by decide +kernel) ⟨(Nat.le_of_ble_eq_true rfl), (Nat.le_of_ble_eq_true rfl)⟩) (pr_now K S [1] (by decide) rfl) rfl rfl hl.1 rfl (lv_room (Nat.le_of_ble_eq_true rfl)) d_Mo_divide_122 ⟨(Nat.le_of_ble_eq_true rfl), (Nat.le_of_ble_eq_true rfl)⟩) (fun r10 u8 H locs hw9 S => ?_)
                have S : Sw G A s.heap _ _ [((ma 22), .inl (k 0, 3998, .inl (fun i => nI (sz i)))), ((ma 21), .inl (k 0, 319840, .inl (fun i => nI (dg i)))), (h0, .inr (8, moL ma (va_up iv 19 (nI N1)) co)), ((ma 24), .inl (k 0, 170, .inl (fun i => nI (u5 i)))), ((ma 27), .inl (k 0, 170, .inl (fun i => nI (D i)))), ((ma 26), .inl (k 0, 170, .inl (fun i => nI (va_up Q k9 (vl 65536 (fun i => U (k9 + i)) ((sz c0) + 1) / vl 65536 D (sz c0)) i))))] := S
                obtain rfl : r10 = nI (cutN (fun i => nI (va_up Q k9 (vl 65536 (fun i => U (k9 + i)) ((sz c0) + 1) / vl 65536 D (sz c0)) i)) ((N1 - (sz c0)) + 1)) := hw9
                refine r_put C K S 2 rfl rfl clOk_Mo 52 (by decide) wf_Mo_313 rfl (ty := .int) (v := .int (nI (cutN (fun i => nI (va_up Q k9 (vl 65536 (fun i => U (k9 + i)) ((sz c0) + 1) / vl 65536 D (sz c0)) i)) ((N1 - (sz c0)) + 1)))) (by decide +kernel) rfl rfl (Nat.le_of_ble_eq_true rfl) (fs' := moL ma (va_up (va_up iv 19 (nI N1)) 23 (nI (cutN (fun i => nI (va_up Q k9 (vl 65536 (fun i => U (k9 + i)) ((sz c0) + 1) / vl 65536 D (sz c0)) i)) ((N1 - (sz c0)) + 1)))) co) (ws' := [((ma 22), .inl (k 0, 3998, .inl (fun i => nI (sz i)))), ((ma 21), .inl (k 0, 319840, .inl (fun i => nI (dg i)))), (h0, .inr (8, moL ma (va_up (va_up iv 19 (nI N1)) 23 (nI (cutN (fun i => nI (va_up Q k9 (vl 65536 (fun i => U (k9 + i)) ((sz c0) + 1) / vl 65536 D (sz c0)) i)) ((N1 - (sz c0)) + 1)))) co)), ((ma 24), .inl (k 0, 170, .inl (fun i => nI (u5 i)))), ((ma 27), .inl (k 0, 170, .inl (fun i => nI (D i)))), ((ma 26), .inl (k 0, 170, .inl (fun i => nI (va_up Q k9 (vl 65536 (fun i => U (k9 + i)) ((sz c0) + 1) / vl 65536 D (sz c0)) i))))]) rfl rfl d_Mo_divide_125 (fun H locs S => ?_)
                have hct := vl_cut (B := 65536) (va_up Q k9 (vl 65536 (fun i => U (k9 + i)) (sz c0 + 1) / vl 65536 D (sz c0))) (fun i => nI ((va_up Q k9 (vl 65536 (fun i => U (k9 + i)) (sz c0 + 1) / vl 65536 D (sz c0))) i)) (fun _ => rfl) (N1 - sz c0 + 1) (fun i hi => Nat.lt_trans (dQ3 i (by omega)) (by decide))
                have hen := dv_q0 hz hnx.1 hnx.2 hD3
                exact r_vret C K (u5, (va_up Q k9 (vl 65536 (fun i => U (k9 + i)) (sz c0 + 1) / vl 65536 D (sz c0))), D, cutN (fun i => nI ((va_up Q k9 (vl 65536 (fun i => U (k9 + i)) (sz c0 + 1) / vl 65536 D (sz c0))) i)) (N1 - sz c0 + 1)) ⟨by rw [← hct.1]; exact hen, Nat.le_trans hct.2.1 (by omega), hct.2.2, hw3.2.1, dQ3, hD2⟩ (S.sub [2, 1, 0, 3, 5, 4] (by decide) rfl) d_Mo_divide_128 (Nat.le_of_ble_eq_true rfl) (Nat.le_of_ble_eq_true rfl)
              · refine lv_iinc (v := nI (k9 - 1)) (lv' := [(5, .int (nI (k9 - 1))), (2, .int (nI (sz c0))), (1, .int (nI c0)), (0, .ref h0)]) hx hb d_Mo_divide_103 hl (k := 0) rfl (z_m1 (a := k9) (by omega)) (by decide) rfl (fun ls hl => ?_)
                refine lv_goto (tgt := 84) hx hb d_Mo_divide_106 (by decide) ?_
                refine lv_iload hx hb d_Mo_divide_84 (lv_at hl 0 rfl) ?_
                refine z_if_lt (a := (k9 - 1)) (tgt := 109) hx hb d_Mo_divide_86 (by decide) (by omega) ?_
                exact ih (k9 - 1) u5 (va_up Q k9 (vl 65536 (fun i => U (k9 + i)) (sz c0 + 1) / vl 65536 D (sz c0))) (by omega) (by omega) (by rw [show k9 - 1 + 1 = k9 by omega, show N1 - sz c0 - (k9 - 1) = N1 - sz c0 + 1 - k9 by omega]; exact hnx.1) (by rw [show k9 - 1 + 1 = k9 by omega]; exact hnx.2) hw3.2.1 dQ3 _ _ (S.sub [0, 1, 2, 5, 3, 4] (by decide) rfl) ls (lv_sub hl [0, 1, 2, 3] rfl)
          exact dl _ (N1 - sz c0) R0 qt (Nat.lt_succ_self _) (Nat.le_refl _) (by rw [show N1 - sz c0 + 1 + sz c0 = N1 + 1 by omega, Nat.sub_self]; show vl 65536 R0 (N1 + 1) + 0 * _ = _; rw [hR3, Nat.zero_mul, Nat.add_zero]) (by rw [show N1 - sz c0 + 1 + sz c0 = N1 + 1 by omega, hR3, hD3]; exact dv_start (n := sz c0) (by rw [show N1 - sz c0 + sz c0 = N1 by omega]; exact hA1) hB1 hp) hR2 dQ _ _ (S.sub [0, 1, 2, 3, 4, 5] (by decide) rfl) ls (lv_sub hl [0, 3, 4, 5] rfl)
        · refine lv_iinc (v := nI (j + 1)) (lv' := [(3, .int (nI (j + 1))), (4, .int (nI (dg (c0 * 80 + sz c0 - 1)))), (2, .int (nI (sz c0))), (1, .int (nI c0)), (0, .ref h0)]) hx hb d_Mo_divide_48 hl (k := 1) rfl (show nI j + Int32.ofInt 1 = nI (j + 1) from (nI_add j 1).trans (congrArg nI (by omega))) (by decide) rfl (fun ls hl => ?_)
          refine lv_goto (tgt := 38) hx hb d_Mo_divide_51 (by decide) ?_
          exact ih (j + 1) (by omega) (by rw [Nat.pow_succ, ← Nat.mul_assoc]; omega) _ _ (S.sub [0, 1, 2, 3, 4, 5] (by decide) rfl) ls (lv_sub hl [1, 0, 2, 3, 4] rfl)
    exact lp _ 0 (Nat.lt_succ_self _) (by rw [Nat.pow_zero, Nat.mul_one]; exact d1) _ _ (S.sub [0, 1, 2, 3, 4, 5] (by decide) rfl) ls (lv_sub hl [0, 1, 2, 4, 3] rfl)
  · have hAB : vl 65536 O N1 < vl 65536 (fun i => dg (c0 * 80 + i)) (sz c0) := Nat.lt_of_lt_of_le (vl_lt N1 (fun i hi => dO i (by omega))) (Nat.le_trans (Nat.pow_le_pow_right (by decide) (by omega)) (vl_ge hp ht))
    refine lv_aload_n hx hb d_Mo_divide_15 rfl (lv_at hl 1 rfl) ?_
    refine lv_iconst (v := 0) hx hb d_Mo_divide_16 (by decide) ?_
    refine r_put C K S 0 rfl rfl clOk_Mo 52 (by decide) wf_Mo_313 rfl (ty := .int) (v := .int 0) (by decide +kernel) rfl rfl (Nat.le_of_ble_eq_true rfl) (fs' := moL ma (va_up (va_up iv 19 (nI N1)) 23 0) co) (ws' := [(h0, .inr (8, moL ma (va_up (va_up iv 19 (nI N1)) 23 0) co)), ((ma 21), .inl (k 0, 319840, .inl (fun i => nI (dg i)))), ((ma 22), .inl (k 0, 3998, .inl (fun i => nI (sz i)))), ((ma 24), .inl (k 0, 170, .inl (fun i => nI (O i)))), ((ma 26), .inl (k 0, 170, .inl (fun i => nI (qt i)))), ((ma 27), .inl (k 0, 170, .inl (fun i => nI (Dv i))))]) rfl rfl d_Mo_divide_17 (fun H locs S => ?_)
    exact r_vret C K (O, qt, Dv, 0) ⟨dv_small hAB, Nat.zero_le _, Or.inl rfl, dO, dQ, dD⟩ (S.sub [0, 1, 2, 3, 4, 5] (by decide) rfl) d_Mo_divide_20 (Nat.le_of_ble_eq_true rfl) (Nat.le_of_ble_eq_true rfl)
end
section
/-! what the table's cells hold behind keepQuotient, put, swapOne, sum -/
theorem dgQ_out {dg qt : Nat → Nat} {b t i : Nat} (h : i < b ∨ b + t ≤ i) : dgQ dg qt b t i = dg i := if_neg (by omega)
theorem dgQ_in {dg qt : Nat → Nat} {b t i : Nat} (h : i < t) : dgQ dg qt b t (b + i) = qt i := by
  unfold dgQ
  rw [if_pos (by omega), Nat.add_sub_cancel_left]
theorem tbO_keepB {dg sz bl qt : Nat → Nat} {T : Nat → Int} {c n b : Nat} {z : Int} (h : tbO dg sz bl T) (hn : n ≤ 80) (hb : b ≤ 1) (hq : ∀ i, i < 170 → qt i < 65536) (htr : n = 0 ∨ qt (n - 1) ≠ 0) (hz : n = 0 → b = 0) (hv : sv b (vl 65536 qt n) = z) : tbO (dgQ dg qt (c * 80) n) (va_up sz c n) (va_up bl c b) (va_up T c z) := by
  refine tbO_up h (fun i hi => ?_) (fun i hi => dgQ_out (by omega)) hn hb ?_ hz ?_
  · unfold dgQ
    split
    · exact hq _ (by omega)
    · exact h.1 i hi
  · rcases htr with q | q
    · exact Or.inl q
    · rcases Nat.eq_zero_or_pos n with w | w
      · exact Or.inl w
      · rw [dgQ_in (by omega)]; exact Or.inr q
  · rw [vl_congr (h := qt) n (fun i hi => dgQ_in hi)]
    exact hv
theorem tbO_keep {dg sz bl qt : Nat → Nat} {T : Nat → Int} {c n o t : Nat} {z : Int} (h : tbO dg sz bl T) (hn : n ≤ 80) (hq : ∀ i, i < 170 → qt i < 65536) (htr : n = 0 ∨ qt (n - 1) ≠ 0) (hv : (if o = t then (vl 65536 qt n : Int) else - (vl 65536 qt n : Int)) = z) : tbO (dgQ dg qt (c * 80) n) (va_up sz c n) (va_up bl c (kqB n o t)) (va_up T c z) := by
  refine tbO_keepB h hn ?_ hq htr (fun w => by unfold kqB; rw [if_pos w]) ?_
  · unfold kqB
    split
    · omega
    · split <;> omega
  · unfold kqB sv
    by_cases w : n = 0
    · rw [if_pos w, if_neg (by decide), ← hv, w]
      show ((0 : Nat) : Int) = if o = t then ((0 : Nat) : Int) else - ((0 : Nat) : Int)
      split <;> rfl
    · rw [if_neg w, ← hv]
      by_cases q : o = t
      · rw [if_pos q, if_pos q, if_neg (by decide)]
      · rw [if_neg q, if_neg q, if_pos rfl]
theorem tbO_put_p {dg sz bl dg' : Nat → Nat} {T : Nat → Int} {c n a : Nat} (h : tbO dg sz bl T) (hp : vl 65536 (fun i => dg' (c * 80 + i)) n = a ∧ n ≤ 4 ∧ (n = 0 ∨ dg' (c * 80 + (n - 1)) ≠ 0) ∧ (∀ i, i < 319840 → dg' i < 65536) ∧ ∀ i, i < c * 80 ∨ c * 80 + 80 ≤ i → dg' i = dg i) : tbO dg' (va_up sz c n) (va_up bl c 0) (va_up T c (a : Int)) :=
  tbO_up h hp.2.2.2.1 hp.2.2.2.2 (by have := hp.2.1; omega) (by decide) hp.2.2.1 (fun _ => rfl) (by rw [hp.1]; rfl)
theorem tbO_put_n {dg sz bl dg' : Nat → Nat} {T : Nat → Int} {c n a : Nat} (h : tbO dg sz bl T) (ha : 0 < a) (hp : vl 65536 (fun i => dg' (c * 80 + i)) n = a ∧ n ≤ 4 ∧ (n = 0 ∨ dg' (c * 80 + (n - 1)) ≠ 0) ∧ (∀ i, i < 319840 → dg' i < 65536) ∧ ∀ i, i < c * 80 ∨ c * 80 + 80 ≤ i → dg' i = dg i) : tbO dg' (va_up sz c n) (va_up bl c 1) (va_up T c (- (a : Int))) :=
  tbO_up h hp.2.2.2.1 hp.2.2.2.2 (by have := hp.2.1; omega) (by decide) hp.2.2.1 (fun w => by
    have h1 := hp.1
    rw [w] at h1
    have h1 : 0 = a := h1
    omega) (by rw [hp.1]; rfl)
/-- the numbers of two cells change places -/
def swD (dg : Nat → Nat) (p t : Nat) : Nat → Nat := fun i => if p * 80 ≤ i ∧ i < p * 80 + t then dg (319760 + (i - p * 80)) else if 319760 ≤ i ∧ i < 319760 + t then dg (p * 80 + (i - 319760)) else dg i
theorem swD_0 (dg : Nat → Nat) (p : Nat) : swD dg p 0 = dg := by
  funext i
  unfold swD
  rw [if_neg (by omega), if_neg (by omega)]
theorem swD_s {dg : Nat → Nat} {p t : Nat} (hp : p < 3997) (ht : t < 80) : va_up (va_up (swD dg p t) (p * 80 + t) (swD dg p t (319760 + t))) (319760 + t) (swD dg p t (p * 80 + t)) = swD dg p (t + 1) := by
  have e1 : swD dg p t (319760 + t) = dg (319760 + t) := by unfold swD; rw [if_neg (by omega), if_neg (by omega)]
  have e2 : swD dg p t (p * 80 + t) = dg (p * 80 + t) := by unfold swD; rw [if_neg (by omega), if_neg (by omega)]
  rw [e1, e2]
  funext i
  by_cases q1 : i = 319760 + t
  · subst q1
    rw [va_up_self]
    unfold swD
    rw [if_neg (by omega), if_pos (by omega), Nat.add_sub_cancel_left]
  · rw [va_up_ne _ _ q1]
    by_cases q2 : i = p * 80 + t
    · subst q2
      rw [va_up_self]
      unfold swD
      rw [if_pos (by omega), Nat.add_sub_cancel_left]
    · rw [va_up_ne _ _ q2]
      unfold swD
      by_cases q3 : p * 80 ≤ i ∧ i < p * 80 + t
      · rw [if_pos q3, if_pos (by omega)]
      · rw [if_neg q3, if_neg (show ¬ (p * 80 ≤ i ∧ i < p * 80 + (t + 1)) by omega)]
        by_cases q4 : 319760 ≤ i ∧ i < 319760 + t
        · rw [if_pos q4, if_pos (by omega)]
        · rw [if_neg q4, if_neg (by omega)]
theorem swD_p {dg : Nat → Nat} {p t i : Nat} (h : i < t) : swD dg p t (p * 80 + i) = dg (319760 + i) := by
  unfold swD
  rw [if_pos (by omega), Nat.add_sub_cancel_left]
theorem swD_1 {dg : Nat → Nat} {p t i : Nat} (hp : p < 3997) (ht : t ≤ 80) (h : i < t) : swD dg p t (3997 * 80 + i) = dg (p * 80 + i) := by
  unfold swD
  rw [if_neg (by omega), if_pos (by omega), show 3997 * 80 + i - 319760 = i by omega]
theorem swD_out {dg : Nat → Nat} {p t i : Nat} (h1 : i < p * 80 ∨ p * 80 + t ≤ i) (h2 : i < 319760) : swD dg p t i = dg i := by
  unfold swD
  rw [if_neg (by omega), if_neg (by omega)]
theorem tbO_swap {dg sz bl : Nat → Nat} {T : Nat → Int} {p m b : Nat} (h : tbO dg sz bl T) (hp : p < 3997) (h1 : 0 < T 3997) (hm1 : sz p ≤ m) (hm2 : sz 3997 ≤ m) (hm : m ≤ 80) (hb : b ≤ 1) : tbO (swD dg p m) (va_up (va_up sz p (sz 3997)) 3997 (sz p)) (va_up (va_up bl 3997 0) p b) (va_up (va_up T p (if b = 0 then T 3997 else - T 3997)) 3997 (T p).natAbs) := by
  have g1 := h.2 3997 (by omega)
  have gp := h.2 p (by omega)
  have z1 : sz 3997 ≠ 0 := fun q => by have := (nmO_zero g1).mp q; omega
  refine ⟨fun i hi => ?_, fun x hx => ?_⟩
  · unfold swD
    split
    · exact h.1 _ (by omega)
    · split
      · exact h.1 _ (by omega)
      · exact h.1 i hi
  · by_cases q1 : x = 3997
    · subst q1
      unfold nmO
      rw [va_up_self, va_up_self, va_up_ne _ _ (show 3997 ≠ p by omega), va_up_self]
      refine ⟨gp.1, by decide, ?_, fun _ => rfl, ?_⟩
      · rcases gp.2.2.1 with w | w
        · exact Or.inl w
        · rcases Nat.eq_zero_or_pos (sz p) with v | v
          · exact Or.inl v
          · right
            rw [swD_1 hp hm (by omega)]
            exact w
      · rw [vl_congr (h := fun i => dg (p * 80 + i)) (sz p) (fun i hi => swD_1 hp hm (by omega)), nmO_abs gp]
        rfl
    · by_cases q2 : x = p
      · subst q2
        unfold nmO
        rw [va_up_ne _ _ q1, va_up_self, va_up_self, va_up_ne _ _ q1, va_up_self]
        refine ⟨g1.1, hb, ?_, fun w => absurd w z1, ?_⟩
        · right
          rw [swD_p (by omega)]
          have := g1.2.2.1.resolve_left z1
          exact this
        · rw [vl_congr (h := fun i => dg (3997 * 80 + i)) (sz 3997) (fun i hi => swD_p (by omega)), nmO_abs g1]
          unfold sv
          by_cases w : b = 0
          · rw [if_pos w, if_neg (by omega)]; omega
          · rw [if_neg w, if_pos (by omega)]; omega
      · have gx := h.2 x hx
        unfold nmO at gx ⊢
        rw [va_up_ne _ _ q1, va_up_ne _ _ q2, va_up_ne _ _ q2, va_up_ne _ _ q1, va_up_ne _ _ q1, va_up_ne _ _ q2]
        refine ⟨gx.1, gx.2.1, ?_, gx.2.2.2.1, ?_⟩
        · rcases gx.2.2.1 with w | w
          · exact Or.inl w
          · right
            rw [swD_out (by omega) (by omega)]
            exact w
        · rw [vl_congr (h := fun i => dg (x * 80 + i)) (sz x) (fun i hi => swD_out (by omega) (by omega))]
          exact gx.2.2.2.2
/-- one cell of a row: the quotient's amount and sign -/
theorem rb_val {ob A tu : Nat} {X one z p : Int} (hob : ob ≤ 1) (hX : sv ob A = X) (ho : 0 < one) (hz : X = - (one * z)) (htu : tu = if 0 < p then 1 else 0) : A / one.natAbs = z.natAbs ∧ (if ob = tu then (z.natAbs : Int) else - (z.natAbs : Int)) = sxS p * z := by
  have hA : A = one.natAbs * z.natAbs := by
    have e1 : A = X.natAbs := by rw [← hX, sv_abs]
    rw [e1, hz, Int.natAbs_neg, Int.natAbs_mul]
  refine ⟨by rw [hA]; exact Nat.mul_div_cancel_left _ (by omega), ?_⟩
  have hs : (0 < z → X < 0) ∧ (z < 0 → 0 < X) ∧ (z = 0 → X = 0) := by
    rw [hz]
    refine ⟨fun w => ?_, fun w => ?_, fun w => ?_⟩
    · have := Int.mul_pos ho w; omega
    · have := Int.mul_neg_of_pos_of_neg ho w; omega
    · rw [w, Int.mul_zero]; rfl
  have hb : (X < 0 → ob = 1) ∧ (0 < X → ob = 0) := by
    rw [← hX]
    unfold sv
    by_cases w : ob = 1
    · rw [if_pos w]; exact ⟨fun _ => w, fun q => by omega⟩
    · rw [if_neg w]; exact ⟨fun q => by omega, fun _ => by omega⟩
  unfold sxS
  by_cases w : 0 < p
  · rw [if_pos w] at htu ⊢
    rcases Int.lt_trichotomy z 0 with q | q | q
    · rw [if_neg (by have := hb.2 (hs.2.1 q); omega)]; omega
    · rw [q]; split <;> rfl
    · rw [if_pos (by have := hb.1 (hs.1 q); omega)]; omega
  · rw [if_neg w] at htu ⊢
    rcases Int.lt_trichotomy z 0 with q | q | q
    · rw [if_pos (by have := hb.2 (hs.2.1 q); omega)]; omega
    · rw [q]; split <;> rfl
    · rw [if_neg (by have := hb.1 (hs.1 q); omega)]; omega
theorem qn_le {qt : Nat → Nat} {n v : Nat} (hv : vl 65536 qt n = v) (hlt : v < 65536 ^ 80) (ht : n = 0 ∨ qt (n - 1) ≠ 0) : n ≤ 80 := by
  apply Nat.le_of_not_lt
  intro q
  have h1 := vl_ge (B := 65536) (g := qt) (n := n) (by omega) (ht.resolve_left (by omega))
  have h2 : 65536 ^ 80 ≤ 65536 ^ (n - 1) := Nat.pow_le_pow_right (by decide) (by omega)
  omega
end
section
/-- arrays and numbers that come back -/
def uz (l : List (Nat → Nat)) : Nat → Nat → Nat := fun i => l.getD i (fun _ => 0)
def fz (a b c d e : Int32) : Nat → Int32 := fun j => if j = 0 then a else if j = 1 then b else if j = 2 then c else if j = 3 then d else e
theorem sv_z (b c : Nat) (g : Nat → Nat) : sv b (vl 65536 g 0) = sv c (vl 65536 g 0) := by
  unfold sv
  show (if b = 1 then - ((0 : Nat) : Int) else ((0 : Nat) : Int)) = (if c = 1 then - ((0 : Nat) : Int) else ((0 : Nat) : Int))
  split <;> split <;> rfl
theorem d_Mo_swapOne_0 : decode c_Mo_swapOne 0 = .ok (.aload_n 0, 1) := by decide +kernel
theorem d_Mo_swapOne_1 : decode c_Mo_swapOne 1 = .ok (.getfield 86, 3) := by decide +kernel
theorem d_Mo_swapOne_4 : decode c_Mo_swapOne 4 = .ok (.iload_n 1, 1) := by decide +kernel
theorem d_Mo_swapOne_5 : decode c_Mo_swapOne 5 = .ok (.iaload, 1) := by decide +kernel
theorem d_Mo_swapOne_6 : decode c_Mo_swapOne 6 = .ok (.aload_n 0, 1) := by decide +kernel
theorem d_Mo_swapOne_7 : decode c_Mo_swapOne 7 = .ok (.getfield 86, 3) := by decide +kernel
theorem d_Mo_swapOne_10 : decode c_Mo_swapOne 10 = .ok (.sipush 3997, 3) := by decide +kernel
theorem d_Mo_swapOne_13 : decode c_Mo_swapOne 13 = .ok (.iaload, 1) := by decide +kernel
theorem d_Mo_swapOne_14 : decode c_Mo_swapOne 14 = .ok (.if_icmp .le 12, 3) := by decide +kernel
theorem d_Mo_swapOne_17 : decode c_Mo_swapOne 17 = .ok (.aload_n 0, 1) := by decide +kernel
theorem d_Mo_swapOne_18 : decode c_Mo_swapOne 18 = .ok (.getfield 86, 3) := by decide +kernel
theorem d_Mo_swapOne_21 : decode c_Mo_swapOne 21 = .ok (.iload_n 1, 1) := by decide +kernel
theorem d_Mo_swapOne_22 : decode c_Mo_swapOne 22 = .ok (.iaload, 1) := by decide +kernel
theorem d_Mo_swapOne_23 : decode c_Mo_swapOne 23 = .ok (.goto 11, 3) := by decide +kernel
theorem d_Mo_swapOne_26 : decode c_Mo_swapOne 26 = .ok (.aload_n 0, 1) := by decide +kernel
theorem d_Mo_swapOne_27 : decode c_Mo_swapOne 27 = .ok (.getfield 86, 3) := by decide +kernel
theorem d_Mo_swapOne_30 : decode c_Mo_swapOne 30 = .ok (.sipush 3997, 3) := by decide +kernel
theorem d_Mo_swapOne_33 : decode c_Mo_swapOne 33 = .ok (.iaload, 1) := by decide +kernel
theorem d_Mo_swapOne_34 : decode c_Mo_swapOne 34 = .ok (.istore_n 3, 1) := by decide +kernel
theorem d_Mo_swapOne_35 : decode c_Mo_swapOne 35 = .ok (.iconst 0, 1) := by decide +kernel
theorem d_Mo_swapOne_36 : decode c_Mo_swapOne 36 = .ok (.istore 4, 2) := by decide +kernel
theorem d_Mo_swapOne_38 : decode c_Mo_swapOne 38 = .ok (.iload 4, 2) := by decide +kernel
theorem d_Mo_swapOne_40 : decode c_Mo_swapOne 40 = .ok (.iload_n 3, 1) := by decide +kernel
theorem d_Mo_swapOne_41 : decode c_Mo_swapOne 41 = .ok (.if_icmp .ge 59, 3) := by decide +kernel
theorem d_Mo_swapOne_44 : decode c_Mo_swapOne 44 = .ok (.aload_n 0, 1) := by decide +kernel
theorem d_Mo_swapOne_45 : decode c_Mo_swapOne 45 = .ok (.getfield 83, 3) := by decide +kernel
theorem d_Mo_swapOne_48 : decode c_Mo_swapOne 48 = .ok (.iload_n 1, 1) := by decide +kernel
theorem d_Mo_swapOne_49 : decode c_Mo_swapOne 49 = .ok (.bipush 80, 2) := by decide +kernel
theorem d_Mo_swapOne_51 : decode c_Mo_swapOne 51 = .ok (.imul, 1) := by decide +kernel
theorem d_Mo_swapOne_52 : decode c_Mo_swapOne 52 = .ok (.iload 4, 2) := by decide +kernel
theorem d_Mo_swapOne_54 : decode c_Mo_swapOne 54 = .ok (.iadd, 1) := by decide +kernel
theorem d_Mo_swapOne_55 : decode c_Mo_swapOne 55 = .ok (.iaload, 1) := by decide +kernel
theorem d_Mo_swapOne_56 : decode c_Mo_swapOne 56 = .ok (.istore 5, 2) := by decide +kernel
theorem d_Mo_swapOne_58 : decode c_Mo_swapOne 58 = .ok (.aload_n 0, 1) := by decide +kernel
theorem d_Mo_swapOne_59 : decode c_Mo_swapOne 59 = .ok (.getfield 83, 3) := by decide +kernel
theorem d_Mo_swapOne_62 : decode c_Mo_swapOne 62 = .ok (.iload_n 1, 1) := by decide +kernel
theorem d_Mo_swapOne_63 : decode c_Mo_swapOne 63 = .ok (.bipush 80, 2) := by decide +kernel
theorem d_Mo_swapOne_65 : decode c_Mo_swapOne 65 = .ok (.imul, 1) := by decide +kernel
theorem d_Mo_swapOne_66 : decode c_Mo_swapOne 66 = .ok (.iload 4, 2) := by decide +kernel
theorem d_Mo_swapOne_68 : decode c_Mo_swapOne 68 = .ok (.iadd, 1) := by decide +kernel
theorem d_Mo_swapOne_69 : decode c_Mo_swapOne 69 = .ok (.aload_n 0, 1) := by decide +kernel
theorem d_Mo_swapOne_70 : decode c_Mo_swapOne 70 = .ok (.getfield 83, 3) := by decide +kernel
theorem d_Mo_swapOne_73 : decode c_Mo_swapOne 73 = .ok (.ldc_w 350, 3) := by decide +kernel
theorem d_Mo_swapOne_76 : decode c_Mo_swapOne 76 = .ok (.iload 4, 2) := by decide +kernel
theorem d_Mo_swapOne_78 : decode c_Mo_swapOne 78 = .ok (.iadd, 1) := by decide +kernel
theorem d_Mo_swapOne_79 : decode c_Mo_swapOne 79 = .ok (.iaload, 1) := by decide +kernel
theorem d_Mo_swapOne_80 : decode c_Mo_swapOne 80 = .ok (.iastore, 1) := by decide +kernel
theorem d_Mo_swapOne_81 : decode c_Mo_swapOne 81 = .ok (.aload_n 0, 1) := by decide +kernel
theorem d_Mo_swapOne_82 : decode c_Mo_swapOne 82 = .ok (.getfield 83, 3) := by decide +kernel
theorem d_Mo_swapOne_85 : decode c_Mo_swapOne 85 = .ok (.ldc_w 350, 3) := by decide +kernel
theorem d_Mo_swapOne_88 : decode c_Mo_swapOne 88 = .ok (.iload 4, 2) := by decide +kernel
theorem d_Mo_swapOne_90 : decode c_Mo_swapOne 90 = .ok (.iadd, 1) := by decide +kernel
theorem d_Mo_swapOne_91 : decode c_Mo_swapOne 91 = .ok (.iload 5, 2) := by decide +kernel
theorem d_Mo_swapOne_93 : decode c_Mo_swapOne 93 = .ok (.iastore, 1) := by decide +kernel
theorem d_Mo_swapOne_94 : decode c_Mo_swapOne 94 = .ok (.iinc 4 1, 3) := by decide +kernel
theorem d_Mo_swapOne_97 : decode c_Mo_swapOne 97 = .ok (.goto (-59), 3) := by decide +kernel
theorem d_Mo_swapOne_100 : decode c_Mo_swapOne 100 = .ok (.aload_n 0, 1) := by decide +kernel
theorem d_Mo_swapOne_101 : decode c_Mo_swapOne 101 = .ok (.getfield 86, 3) := by decide +kernel
theorem d_Mo_swapOne_104 : decode c_Mo_swapOne 104 = .ok (.iload_n 1, 1) := by decide +kernel
theorem d_Mo_swapOne_105 : decode c_Mo_swapOne 105 = .ok (.iaload, 1) := by decide +kernel
theorem d_Mo_swapOne_106 : decode c_Mo_swapOne 106 = .ok (.istore 4, 2) := by decide +kernel
theorem d_Mo_swapOne_108 : decode c_Mo_swapOne 108 = .ok (.aload_n 0, 1) := by decide +kernel
theorem d_Mo_swapOne_109 : decode c_Mo_swapOne 109 = .ok (.getfield 86, 3) := by decide +kernel
theorem d_Mo_swapOne_112 : decode c_Mo_swapOne 112 = .ok (.iload_n 1, 1) := by decide +kernel
theorem d_Mo_swapOne_113 : decode c_Mo_swapOne 113 = .ok (.aload_n 0, 1) := by decide +kernel
theorem d_Mo_swapOne_114 : decode c_Mo_swapOne 114 = .ok (.getfield 86, 3) := by decide +kernel
theorem d_Mo_swapOne_117 : decode c_Mo_swapOne 117 = .ok (.sipush 3997, 3) := by decide +kernel
theorem d_Mo_swapOne_120 : decode c_Mo_swapOne 120 = .ok (.iaload, 1) := by decide +kernel
theorem d_Mo_swapOne_121 : decode c_Mo_swapOne 121 = .ok (.iastore, 1) := by decide +kernel
theorem d_Mo_swapOne_122 : decode c_Mo_swapOne 122 = .ok (.aload_n 0, 1) := by decide +kernel
theorem d_Mo_swapOne_123 : decode c_Mo_swapOne 123 = .ok (.getfield 86, 3) := by decide +kernel
theorem d_Mo_swapOne_126 : decode c_Mo_swapOne 126 = .ok (.sipush 3997, 3) := by decide +kernel
theorem d_Mo_swapOne_129 : decode c_Mo_swapOne 129 = .ok (.iload 4, 2) := by decide +kernel
theorem d_Mo_swapOne_131 : decode c_Mo_swapOne 131 = .ok (.iastore, 1) := by decide +kernel
theorem d_Mo_swapOne_132 : decode c_Mo_swapOne 132 = .ok (.aload_n 0, 1) := by decide +kernel
theorem d_Mo_swapOne_133 : decode c_Mo_swapOne 133 = .ok (.getfield 89, 3) := by decide +kernel
theorem d_Mo_swapOne_136 : decode c_Mo_swapOne 136 = .ok (.sipush 3997, 3) := by decide +kernel
theorem d_Mo_swapOne_139 : decode c_Mo_swapOne 139 = .ok (.iconst 0, 1) := by decide +kernel
theorem d_Mo_swapOne_140 : decode c_Mo_swapOne 140 = .ok (.bastore, 1) := by decide +kernel
theorem d_Mo_swapOne_141 : decode c_Mo_swapOne 141 = .ok (.aload_n 0, 1) := by decide +kernel
theorem d_Mo_swapOne_142 : decode c_Mo_swapOne 142 = .ok (.getfield 89, 3) := by decide +kernel
theorem d_Mo_swapOne_145 : decode c_Mo_swapOne 145 = .ok (.iload_n 1, 1) := by decide +kernel
theorem d_Mo_swapOne_146 : decode c_Mo_swapOne 146 = .ok (.iload_n 2, 1) := by decide +kernel
theorem d_Mo_swapOne_147 : decode c_Mo_swapOne 147 = .ok (.ifCond .ne 7, 3) := by decide +kernel
theorem d_Mo_swapOne_150 : decode c_Mo_swapOne 150 = .ok (.iconst 1, 1) := by decide +kernel
theorem d_Mo_swapOne_151 : decode c_Mo_swapOne 151 = .ok (.goto 4, 3) := by decide +kernel
theorem d_Mo_swapOne_154 : decode c_Mo_swapOne 154 = .ok (.iconst 0, 1) := by decide +kernel
theorem d_Mo_swapOne_155 : decode c_Mo_swapOne 155 = .ok (.bastore, 1) := by decide +kernel
theorem d_Mo_swapOne_156 : decode c_Mo_swapOne 156 = .ok (.return_, 1) := by decide +kernel
set_option maxRecDepth 100000 in
set_option maxHeartbeats 16000000 in
/-- swapOne(c0, tu) -/
theorem g_Mo_swapOne (l : Launch) (G : va_G) (k : Nat → ClassId) (h0 : Nat) (s0 : Nat) (c0 : Nat) (tu : Nat) (ma : Nat → Nat) (iv : Nat → Int32) (co : Int64) (dg : Nat → Nat) (sz : Nat → Nat) (bl : Nat → Nat) (T : Nat → Int) (hT : tbO dg sz bl T) (kc : c0 < 3997) (h1 : 0 < T 3997) (htu : tu ≤ 1) : CV l y_Mo_swapOne c_Mo_swapOne 6 { frames := 0, cells := 0, slots := 0, locals := 0 } [.ref h0, .int (nI c0), .int (nI tu)] G k s0 [(h0, .inr (8, moL ma iv co)), ((ma 21), .inl (k 0, 319840, .inl (fun i => nI (dg i)))), ((ma 22), .inl (k 0, 3998, .inl (fun i => nI (sz i)))), ((ma 23), .inl (k 2, 3998, .inl (fun i => nI (bl i))))] (fun (u : (Nat → Nat) × (Nat → Nat) × (Nat → Nat)) => tbO u.1 u.2.1 u.2.2 (va_up (va_up T c0 (if tu = 1 then T 3997 else - T 3997)) 3997 ((T c0).natAbs : Int))) (fun u => [(h0, .inr (8, moL ma iv co)), ((ma 21), .inl (k 0, 319840, .inl (fun i => nI (u.1 i)))), ((ma 22), .inl (k 0, 3998, .inl (fun i => nI (u.2.1 i)))), ((ma 23), .inl (k 2, 3998, .inl (fun i => nI (u.2.2 i))))]) 0 0 := by
  refine met_start (by decide) (Nat.le_of_ble_eq_true rfl) ?_
  intro p e s m below meth c C K hA hsz S ls hl
  generalize va_A [(h0, .inr (8, moL ma iv co)), ((ma 21), .inl (k 0, 319840, .inl (fun i => nI (dg i)))), ((ma 22), .inl (k 0, 3998, .inl (fun i => nI (sz i)))), ((ma 23), .inl (k 2, 3998, .inl (fun i => nI (bl i))))] s0 = A at hA S ⊢
  have hx := C.1
  have hb := C.2.1
  have hl : lv_has ls 6 [(0, .ref h0), (1, .int (nI c0)), (2, .int (nI tu))] := hl
  have q1 := (hT.2 c0 (by omega)).1
  have q2 := (hT.2 3997 (by omega)).1
  refine lv_aload_n hx hb d_Mo_swapOne_0 rfl (lv_at hl 0 rfl) ?_
  refine r_get C K S 0 rfl rfl clOk_Mo 42 (by decide) wf_Mo_86 (v := .ref (ma 22)) rfl d_Mo_swapOne_1 ?_
  refine lv_iload_n hx hb d_Mo_swapOne_4 rfl (lv_at hl 1 rfl) ?_
  refine r_iald C K S 2 rfl (i := nI c0) (show vp_in (nI c0) _ from vp_in_nI (n := c0) (by omega) (by decide)) (v := nI (sz c0)) (by rw [nI_clamp (by omega)]) d_Mo_swapOne_5 ?_
  refine lv_aload_n hx hb d_Mo_swapOne_6 rfl (lv_at hl 0 rfl) ?_
  refine r_get C K S 0 rfl rfl clOk_Mo 42 (by decide) wf_Mo_86 (v := .ref (ma 22)) rfl d_Mo_swapOne_7 ?_
  refine lv_sipush (v := 3997) hx hb d_Mo_swapOne_10 (by decide) ?_
  refine r_iald C K S 2 rfl (i := 3997) (by unfold vp_in; decide) (v := nI (sz 3997)) (by rw [show (3997 : Int32).toNatClampNeg = 3997 from by decide]) d_Mo_swapOne_13 ?_
  have cont : ∀ (mm : Nat), (sz c0 ≤ mm) → (sz 3997 ≤ mm) → (mm ≤ 80) → ∀ (H : Heap) (locs : List Loc), Sw G A s.heap H locs [(h0, .inr (8, moL ma iv co)), ((ma 21), .inl (k 0, 319840, .inl (fun i => nI (dg i)))), ((ma 22), .inl (k 0, 3998, .inl (fun i => nI (sz i)))), ((ma 23), .inl (k 2, 3998, .inl (fun i => nI (bl i))))] → ∀ ls : Array Slot, lv_has ls 6 [(0, .ref h0), (1, .int (nI c0)), (2, .int (nI tu))] → W p l e { frames := 0, cells := 0, slots := 0, locals := 0 } s m [Value.ref h0, Value.int (nI c0), Value.int (nI tu)].toArray below meth c H locs 0 0 (MQ below (va_Qv (fun (u : (Nat → Nat) × (Nat → Nat) × (Nat → Nat)) => tbO u.1 u.2.1 u.2.2 (va_up (va_up T c0 (if tu = 1 then T 3997 else - T 3997)) 3997 ((T c0).natAbs : Int))) (Po G k A (fun u => [(h0, .inr (8, moL ma iv co)), ((ma 21), .inl (k 0, 319840, .inl (fun i => nI (u.1 i)))), ((ma 22), .inl (k 0, 3998, .inl (fun i => nI (u.2.1 i)))), ((ma 23), .inl (k 2, 3998, .inl (fun i => nI (u.2.2 i))))])) A) [Value.ref h0, Value.int (nI c0), Value.int (nI tu)].toArray s 0 0 A) (F0 m 34 ls [.int (nI mm)]) := by
    intro mm hm1 hm2 hm3 H locs S ls hl
    refine lv_istore_n (lv' := [(3, .int (nI mm)), (0, .ref h0), (1, .int (nI c0)), (2, .int (nI tu))]) hx hb d_Mo_swapOne_34 rfl hl (by decide) rfl (fun ls hl => ?_)
    refine lv_iconst (v := 0) hx hb d_Mo_swapOne_35 (by decide) ?_
    refine lv_istore (lv' := [(4, .int 0), (3, .int (nI mm)), (0, .ref h0), (1, .int (nI c0)), (2, .int (nI tu))]) hx hb d_Mo_swapOne_36 hl (by decide) rfl (fun ls hl => ?_)
    have S : Sw G A s.heap H locs [(h0, .inr (8, moL ma iv co)), ((ma 21), .inl (k 0, 319840, .inl (fun i => nI (swD dg c0 0 i)))), ((ma 22), .inl (k 0, 3998, .inl (fun i => nI (sz i)))), ((ma 23), .inl (k 2, 3998, .inl (fun i => nI (bl i))))] := by rw [swD_0]; exact S
    have lp : ∀ d9, ∀ (t : Nat), (mm - t) < d9 → (t ≤ mm) → ∀ (H : Heap) (locs : List Loc), Sw G A s.heap H locs [(h0, .inr (8, moL ma iv co)), ((ma 21), .inl (k 0, 319840, .inl (fun i => nI (swD dg c0 t i)))), ((ma 22), .inl (k 0, 3998, .inl (fun i => nI (sz i)))), ((ma 23), .inl (k 2, 3998, .inl (fun i => nI (bl i))))] → ∀ ls : Array Slot, lv_has ls 6 [(4, .int (nI t)), (3, .int (nI mm)), (0, .ref h0), (1, .int (nI c0)), (2, .int (nI tu))] → W p l e { frames := 0, cells := 0, slots := 0, locals := 0 } s m [Value.ref h0, Value.int (nI c0), Value.int (nI tu)].toArray below meth c H locs 0 0 (MQ below (va_Qv (fun (u : (Nat → Nat) × (Nat → Nat) × (Nat → Nat)) => tbO u.1 u.2.1 u.2.2 (va_up (va_up T c0 (if tu = 1 then T 3997 else - T 3997)) 3997 ((T c0).natAbs : Int))) (Po G k A (fun u => [(h0, .inr (8, moL ma iv co)), ((ma 21), .inl (k 0, 319840, .inl (fun i => nI (u.1 i)))), ((ma 22), .inl (k 0, 3998, .inl (fun i => nI (u.2.1 i)))), ((ma 23), .inl (k 2, 3998, .inl (fun i => nI (u.2.2 i))))])) A) [Value.ref h0, Value.int (nI c0), Value.int (nI tu)].toArray s 0 0 A) (F0 m 38 ls []) := by
      intro d9
      induction d9 with
      | zero => intro t hm; exact absurd hm (Nat.not_lt_zero _)
      | succ d9 ih =>
        intro t hm ht H locs S ls hl
        refine lv_iload hx hb d_Mo_swapOne_38 (lv_at hl 0 rfl) ?_
        refine lv_iload_n hx hb d_Mo_swapOne_40 rfl (lv_at hl 1 rfl) ?_
        refine z_icmp_ge (a := t) (b := mm) (tgt := 100) hx hb d_Mo_swapOne_41 (by decide) (by omega) (by omega) (fun hc1 => ?_) (fun hc1 => ?_)
        · have htm : t = mm := by omega
          refine lv_aload_n hx hb d_Mo_swapOne_100 rfl (lv_at hl 2 rfl) ?_
          refine r_get C K S 0 rfl rfl clOk_Mo 42 (by decide) wf_Mo_86 (v := .ref (ma 22)) rfl d_Mo_swapOne_101 ?_
          refine lv_iload_n hx hb d_Mo_swapOne_104 rfl (lv_at hl 3 rfl) ?_
          refine r_iald C K S 2 rfl (i := nI c0) (show vp_in (nI c0) _ from vp_in_nI (n := c0) (by omega) (by decide)) (v := nI (sz c0)) (by rw [nI_clamp (by omega)]) d_Mo_swapOne_105 ?_
          refine lv_istore (lv' := [(4, .int (nI (sz c0))), (3, .int (nI mm)), (0, .ref h0), (1, .int (nI c0)), (2, .int (nI tu))]) hx hb d_Mo_swapOne_106 hl (by decide) rfl (fun ls hl => ?_)
          refine lv_aload_n hx hb d_Mo_swapOne_108 rfl (lv_at hl 2 rfl) ?_
          refine r_get C K S 0 rfl rfl clOk_Mo 42 (by decide) wf_Mo_86 (v := .ref (ma 22)) rfl d_Mo_swapOne_109 ?_
          refine lv_iload_n hx hb d_Mo_swapOne_112 rfl (lv_at hl 3 rfl) ?_
          refine lv_aload_n hx hb d_Mo_swapOne_113 rfl (lv_at hl 2 rfl) ?_
          refine r_get C K S 0 rfl rfl clOk_Mo 42 (by decide) wf_Mo_86 (v := .ref (ma 22)) rfl d_Mo_swapOne_114 ?_
          refine lv_sipush (v := 3997) hx hb d_Mo_swapOne_117 (by decide) ?_
          refine r_iald C K S 2 rfl (i := 3997) (by unfold vp_in; decide) (v := nI (sz 3997)) (by rw [show (3997 : Int32).toNatClampNeg = 3997 from by decide]) d_Mo_swapOne_120 ?_
          refine r_iast C K S 2 rfl (i := nI c0) (x := nI (sz 3997)) (show vp_in (nI c0) _ from vp_in_nI (n := c0) (by omega) (by decide)) (f' := fun i => nI (va_up sz c0 (sz 3997) i)) (ws' := [(h0, .inr (8, moL ma iv co)), ((ma 21), .inl (k 0, 319840, .inl (fun i => nI (swD dg c0 t i)))), ((ma 22), .inl (k 0, 3998, .inl (fun i => nI (va_up sz c0 (sz 3997) i)))), ((ma 23), .inl (k 2, 3998, .inl (fun i => nI (bl i))))]) (show upd _ (nI c0 : Int32).toNatClampNeg (nI (sz 3997)) = _ from upd_nI sz (j := c0) (by omega) (sz 3997)) rfl d_Mo_swapOne_121 (fun H locs S => ?_)
          refine lv_aload_n hx hb d_Mo_swapOne_122 rfl (lv_at hl 2 rfl) ?_
          refine r_get C K S 0 rfl rfl clOk_Mo 42 (by decide) wf_Mo_86 (v := .ref (ma 22)) rfl d_Mo_swapOne_123 ?_
          refine lv_sipush (v := 3997) hx hb d_Mo_swapOne_126 (by decide) ?_
          refine lv_iload hx hb d_Mo_swapOne_129 (lv_at hl 0 rfl) ?_
          refine r_iast C K S 2 rfl (i := 3997) (x := nI (sz c0)) (by unfold vp_in; decide) (f' := fun i => nI (va_up (va_up sz c0 (sz 3997)) 3997 (sz c0) i)) (ws' := [(h0, .inr (8, moL ma iv co)), ((ma 21), .inl (k 0, 319840, .inl (fun i => nI (swD dg c0 t i)))), ((ma 22), .inl (k 0, 3998, .inl (fun i => nI (va_up (va_up sz c0 (sz 3997)) 3997 (sz c0) i)))), ((ma 23), .inl (k 2, 3998, .inl (fun i => nI (bl i))))]) (show upd _ (3997 : Int32).toNatClampNeg (nI (sz c0)) = _ from upd_nI (va_up sz c0 (sz 3997)) (j := 3997) (by omega) (sz c0)) rfl d_Mo_swapOne_131 (fun H locs S => ?_)
          refine lv_aload_n hx hb d_Mo_swapOne_132 rfl (lv_at hl 2 rfl) ?_
          refine r_get C K S 0 rfl rfl clOk_Mo 43 (by decide) wf_Mo_89 (v := .ref (ma 23)) rfl d_Mo_swapOne_133 ?_
          refine lv_sipush (v := 3997) hx hb d_Mo_swapOne_136 (by decide) ?_
          refine lv_iconst (v := 0) hx hb d_Mo_swapOne_139 (by decide) ?_
          refine r_zast C K S 3 rfl (i := 3997) (x := 0) (by unfold vp_in; decide) (f' := fun i => nI (va_up bl 3997 0 i)) (ws' := [(h0, .inr (8, moL ma iv co)), ((ma 21), .inl (k 0, 319840, .inl (fun i => nI (swD dg c0 t i)))), ((ma 22), .inl (k 0, 3998, .inl (fun i => nI (va_up (va_up sz c0 (sz 3997)) 3997 (sz c0) i)))), ((ma 23), .inl (k 2, 3998, .inl (fun i => nI (va_up bl 3997 0 i))))]) (show upd _ (3997 : Int32).toNatClampNeg (vp_nar .boolean 0) = _ from upd_Z bl (j := 3997) (v := 0) (by omega) (by omega)) rfl d_Mo_swapOne_140 (fun H locs S => ?_)
          refine lv_aload_n hx hb d_Mo_swapOne_141 rfl (lv_at hl 2 rfl) ?_
          refine r_get C K S 0 rfl rfl clOk_Mo 43 (by decide) wf_Mo_89 (v := .ref (ma 23)) rfl d_Mo_swapOne_142 ?_
          refine lv_iload_n hx hb d_Mo_swapOne_145 rfl (lv_at hl 3 rfl) ?_
          refine lv_iload_n hx hb d_Mo_swapOne_146 rfl (lv_at hl 4 rfl) ?_
          refine z_if_ne (a := tu) (tgt := 154) hx hb d_Mo_swapOne_147 (by decide) (by omega) (fun hc2 => ?_) (fun hc2 => ?_)
          · refine lv_iconst (v := 0) hx hb d_Mo_swapOne_154 (by decide) ?_
            refine r_zast C K S 3 rfl (i := nI c0) (x := 0) (show vp_in (nI c0) _ from vp_in_nI (n := c0) (by omega) (by decide)) (f' := fun i => nI (va_up (va_up bl 3997 0) c0 0 i)) (ws' := [(h0, .inr (8, moL ma iv co)), ((ma 21), .inl (k 0, 319840, .inl (fun i => nI (swD dg c0 t i)))), ((ma 22), .inl (k 0, 3998, .inl (fun i => nI (va_up (va_up sz c0 (sz 3997)) 3997 (sz c0) i)))), ((ma 23), .inl (k 2, 3998, .inl (fun i => nI (va_up (va_up bl 3997 0) c0 0 i))))]) (show upd _ (nI c0 : Int32).toNatClampNeg (vp_nar .boolean 0) = _ from upd_Z (va_up bl 3997 0) (j := c0) (v := 0) (by omega) (by omega)) rfl d_Mo_swapOne_155 (fun H locs S => ?_)
            have h9 := tbO_swap (p := c0) (m := t) (b := 0) hT kc h1 (by omega) (by omega) (by omega) (by decide)
            rw [if_pos rfl] at h9
            exact r_vret C K (swD dg c0 t, va_up (va_up sz c0 (sz 3997)) 3997 (sz c0), va_up (va_up bl 3997 0) c0 0) (by show tbO _ _ _ (va_up (va_up T c0 (if tu = 1 then T 3997 else - T 3997)) 3997 _); rw [if_pos (show tu = 1 by omega)]; exact h9) (S.sub [0, 1, 2, 3] (by decide) rfl) d_Mo_swapOne_156 (Nat.le_of_ble_eq_true rfl) (Nat.le_of_ble_eq_true rfl)
          · refine lv_iconst (v := 1) hx hb d_Mo_swapOne_150 (by decide) ?_
            refine lv_goto (tgt := 155) hx hb d_Mo_swapOne_151 (by decide) ?_
            refine r_zast C K S 3 rfl (i := nI c0) (x := 1) (show vp_in (nI c0) _ from vp_in_nI (n := c0) (by omega) (by decide)) (f' := fun i => nI (va_up (va_up bl 3997 0) c0 1 i)) (ws' := [(h0, .inr (8, moL ma iv co)), ((ma 21), .inl (k 0, 319840, .inl (fun i => nI (swD dg c0 t i)))), ((ma 22), .inl (k 0, 3998, .inl (fun i => nI (va_up (va_up sz c0 (sz 3997)) 3997 (sz c0) i)))), ((ma 23), .inl (k 2, 3998, .inl (fun i => nI (va_up (va_up bl 3997 0) c0 1 i))))]) (show upd _ (nI c0 : Int32).toNatClampNeg (vp_nar .boolean 1) = _ from upd_Z (va_up bl 3997 0) (j := c0) (v := 1) (by omega) (by omega)) rfl d_Mo_swapOne_155 (fun H locs S => ?_)
            have h9 := tbO_swap (p := c0) (m := t) (b := 1) hT kc h1 (by omega) (by omega) (by omega) (by decide)
            rw [if_neg (by decide)] at h9
            exact r_vret C K (swD dg c0 t, va_up (va_up sz c0 (sz 3997)) 3997 (sz c0), va_up (va_up bl 3997 0) c0 1) (by show tbO _ _ _ (va_up (va_up T c0 (if tu = 1 then T 3997 else - T 3997)) 3997 _); rw [if_neg (show ¬ tu = 1 by omega)]; exact h9) (S.sub [0, 1, 2, 3] (by decide) rfl) d_Mo_swapOne_156 (Nat.le_of_ble_eq_true rfl) (Nat.le_of_ble_eq_true rfl)
        · refine lv_aload_n hx hb d_Mo_swapOne_44 rfl (lv_at hl 2 rfl) ?_
          refine r_get C K S 0 rfl rfl clOk_Mo 41 (by decide) wf_Mo_83 (v := .ref (ma 21)) rfl d_Mo_swapOne_45 ?_
          refine lv_iload_n hx hb d_Mo_swapOne_48 rfl (lv_at hl 3 rfl) ?_
          refine lv_bipush (v := 80) hx hb d_Mo_swapOne_49 (by decide) ?_
          refine z_imul (x := nI c0) (y := 80) (v := nI (c0 * 80)) hx hb d_Mo_swapOne_51 (pk_mul c0 80) ?_
          refine lv_iload hx hb d_Mo_swapOne_52 (lv_at hl 0 rfl) ?_
          refine z_iadd (x := nI (c0 * 80)) (y := nI t) (v := nI (c0 * 80 + t)) hx hb d_Mo_swapOne_54 (nI_add (c0 * 80) t) ?_
          refine r_iald C K S 1 rfl (i := nI (c0 * 80 + t)) (show vp_in (nI (c0 * 80 + t)) _ from vp_in_nI (n := (c0 * 80 + t)) (by omega) (by decide)) (v := nI (swD dg c0 t (c0 * 80 + t))) (by rw [nI_clamp (by omega)]) d_Mo_swapOne_55 ?_
          refine lv_istore (lv' := [(5, .int (nI (swD dg c0 t (c0 * 80 + t)))), (4, .int (nI t)), (3, .int (nI mm)), (0, .ref h0), (1, .int (nI c0)), (2, .int (nI tu))]) hx hb d_Mo_swapOne_56 hl (by decide) rfl (fun ls hl => ?_)
          refine lv_aload_n hx hb d_Mo_swapOne_58 rfl (lv_at hl 3 rfl) ?_
          refine r_get C K S 0 rfl rfl clOk_Mo 41 (by decide) wf_Mo_83 (v := .ref (ma 21)) rfl d_Mo_swapOne_59 ?_
          refine lv_iload_n hx hb d_Mo_swapOne_62 rfl (lv_at hl 4 rfl) ?_
          refine lv_bipush (v := 80) hx hb d_Mo_swapOne_63 (by decide) ?_
          refine z_imul (x := nI c0) (y := 80) (v := nI (c0 * 80)) hx hb d_Mo_swapOne_65 (pk_mul c0 80) ?_
          refine lv_iload hx hb d_Mo_swapOne_66 (lv_at hl 1 rfl) ?_
          refine z_iadd (x := nI (c0 * 80)) (y := nI t) (v := nI (c0 * 80 + t)) hx hb d_Mo_swapOne_68 (nI_add (c0 * 80) t) ?_
          refine lv_aload_n hx hb d_Mo_swapOne_69 rfl (lv_at hl 3 rfl) ?_
          refine r_get C K S 0 rfl rfl clOk_Mo 41 (by decide) wf_Mo_83 (v := .ref (ma 21)) rfl d_Mo_swapOne_70 ?_
          refine lv_ldcw (v := 319760) hx hb C.2.2.2.1 (C.2.2.2.2.1 _ wk_Mo_350) d_Mo_swapOne_73 ?_
          refine lv_iload hx hb d_Mo_swapOne_76 (lv_at hl 1 rfl) ?_
          refine z_iadd (x := 319760) (y := nI t) (v := nI (319760 + t)) hx hb d_Mo_swapOne_78 (nI_add 319760 t) ?_
          refine r_iald C K S 1 rfl (i := nI (319760 + t)) (show vp_in (nI (319760 + t)) _ from vp_in_nI (n := (319760 + t)) (by omega) (by decide)) (v := nI (swD dg c0 t (319760 + t))) (by rw [nI_clamp (by omega)]) d_Mo_swapOne_79 ?_
          refine r_iast C K S 1 rfl (i := nI (c0 * 80 + t)) (x := nI (swD dg c0 t (319760 + t))) (show vp_in (nI (c0 * 80 + t)) _ from vp_in_nI (n := (c0 * 80 + t)) (by omega) (by decide)) (f' := fun i => nI (va_up (swD dg c0 t) (c0 * 80 + t) (swD dg c0 t (319760 + t)) i)) (ws' := [(h0, .inr (8, moL ma iv co)), ((ma 21), .inl (k 0, 319840, .inl (fun i => nI (va_up (swD dg c0 t) (c0 * 80 + t) (swD dg c0 t (319760 + t)) i)))), ((ma 22), .inl (k 0, 3998, .inl (fun i => nI (sz i)))), ((ma 23), .inl (k 2, 3998, .inl (fun i => nI (bl i))))]) (show upd _ (nI (c0 * 80 + t) : Int32).toNatClampNeg (nI (swD dg c0 t (319760 + t))) = _ from upd_nI (swD dg c0 t) (j := (c0 * 80 + t)) (by omega) (swD dg c0 t (319760 + t))) rfl d_Mo_swapOne_80 (fun H locs S => ?_)
          refine lv_aload_n hx hb d_Mo_swapOne_81 rfl (lv_at hl 3 rfl) ?_
          refine r_get C K S 0 rfl rfl clOk_Mo 41 (by decide) wf_Mo_83 (v := .ref (ma 21)) rfl d_Mo_swapOne_82 ?_
          refine lv_ldcw (v := 319760) hx hb C.2.2.2.1 (C.2.2.2.2.1 _ wk_Mo_350) d_Mo_swapOne_85 ?_
          refine lv_iload hx hb d_Mo_swapOne_88 (lv_at hl 1 rfl) ?_
          refine z_iadd (x := 319760) (y := nI t) (v := nI (319760 + t)) hx hb d_Mo_swapOne_90 (nI_add 319760 t) ?_
          refine lv_iload hx hb d_Mo_swapOne_91 (lv_at hl 0 rfl) ?_
          refine r_iast C K S 1 rfl (i := nI (319760 + t)) (x := nI (swD dg c0 t (c0 * 80 + t))) (show vp_in (nI (319760 + t)) _ from vp_in_nI (n := (319760 + t)) (by omega) (by decide)) (f' := fun i => nI (va_up (va_up (swD dg c0 t) (c0 * 80 + t) (swD dg c0 t (319760 + t))) (319760 + t) (swD dg c0 t (c0 * 80 + t)) i)) (ws' := [(h0, .inr (8, moL ma iv co)), ((ma 21), .inl (k 0, 319840, .inl (fun i => nI (va_up (va_up (swD dg c0 t) (c0 * 80 + t) (swD dg c0 t (319760 + t))) (319760 + t) (swD dg c0 t (c0 * 80 + t)) i)))), ((ma 22), .inl (k 0, 3998, .inl (fun i => nI (sz i)))), ((ma 23), .inl (k 2, 3998, .inl (fun i => nI (bl i))))]) (show upd _ (nI (319760 + t) : Int32).toNatClampNeg (nI (swD dg c0 t (c0 * 80 + t))) = _ from upd_nI (va_up (swD dg c0 t) (c0 * 80 + t) (swD dg c0 t (319760 + t))) (j := (319760 + t)) (by omega) (swD dg c0 t (c0 * 80 + t))) rfl d_Mo_swapOne_93 (fun H locs S => ?_)
          have S : Sw G A s.heap H locs [(h0, .inr (8, moL ma iv co)), ((ma 21), .inl (k 0, 319840, .inl (fun i => nI (swD dg c0 (t + 1) i)))), ((ma 22), .inl (k 0, 3998, .inl (fun i => nI (sz i)))), ((ma 23), .inl (k 2, 3998, .inl (fun i => nI (bl i))))] := by rw [swD_s (dg := dg) (p := c0) (t := t) kc (by omega)] at S; exact S
          refine lv_iinc (v := nI (t + 1)) (lv' := [(4, .int (nI (t + 1))), (5, .int (nI (swD dg c0 t (c0 * 80 + t)))), (3, .int (nI mm)), (0, .ref h0), (1, .int (nI c0)), (2, .int (nI tu))]) hx hb d_Mo_swapOne_94 hl (k := 1) rfl (show nI t + Int32.ofInt 1 = nI (t + 1) from (nI_add t 1).trans (congrArg nI (by omega))) (by decide) rfl (fun ls hl => ?_)
          refine lv_goto (tgt := 38) hx hb d_Mo_swapOne_97 (by decide) ?_
          exact ih (t + 1) (by omega) (by omega) _ _ (S.sub [0, 1, 2, 3] (by decide) rfl) ls (lv_sub hl [0, 2, 3, 4, 5] rfl)
    exact lp _ 0 (Nat.lt_succ_self _) (by omega) _ _ (S.sub [0, 1, 2, 3] (by decide) rfl) ls (lv_sub hl [0, 1, 2, 3, 4] rfl)
  refine z_icmp_le (a := (sz c0)) (b := (sz 3997)) (tgt := 26) hx hb d_Mo_swapOne_14 (by decide) (by omega) (by omega) (fun hc3 => ?_) (fun hc3 => ?_)
  · refine lv_aload_n hx hb d_Mo_swapOne_26 rfl (lv_at hl 0 rfl) ?_
    refine r_get C K S 0 rfl rfl clOk_Mo 42 (by decide) wf_Mo_86 (v := .ref (ma 22)) rfl d_Mo_swapOne_27 ?_
    refine lv_sipush (v := 3997) hx hb d_Mo_swapOne_30 (by decide) ?_
    refine r_iald C K S 2 rfl (i := 3997) (by unfold vp_in; decide) (v := nI (sz 3997)) (by rw [show (3997 : Int32).toNatClampNeg = 3997 from by decide]) d_Mo_swapOne_33 ?_
    exact cont (sz 3997) (by omega) (by omega) (by omega) _ _ (S.sub [0, 1, 2, 3] (by decide) rfl) ls (lv_sub hl [0, 1, 2] rfl)
  · refine lv_aload_n hx hb d_Mo_swapOne_17 rfl (lv_at hl 0 rfl) ?_
    refine r_get C K S 0 rfl rfl clOk_Mo 42 (by decide) wf_Mo_86 (v := .ref (ma 22)) rfl d_Mo_swapOne_18 ?_
    refine lv_iload_n hx hb d_Mo_swapOne_21 rfl (lv_at hl 1 rfl) ?_
    refine r_iald C K S 2 rfl (i := nI c0) (show vp_in (nI c0) _ from vp_in_nI (n := c0) (by omega) (by decide)) (v := nI (sz c0)) (by rw [nI_clamp (by omega)]) d_Mo_swapOne_22 ?_
    refine lv_goto (tgt := 34) hx hb d_Mo_swapOne_23 (by decide) ?_
    exact cont (sz c0) (by omega) (by omega) (by omega) _ _ (S.sub [0, 1, 2, 3] (by decide) rfl) ls (lv_sub hl [0, 1, 2] rfl)
theorem d_Mo_sum_0 : decode c_Mo_sum 0 = .ok (.aload_n 0, 1) := by decide +kernel
theorem d_Mo_sum_1 : decode c_Mo_sum 1 = .ok (.iload_n 2, 1) := by decide +kernel
theorem d_Mo_sum_2 : decode c_Mo_sum 2 = .ok (.iload_n 3, 1) := by decide +kernel
theorem d_Mo_sum_3 : decode c_Mo_sum 3 = .ok (.iload 4, 2) := by decide +kernel
theorem d_Mo_sum_5 : decode c_Mo_sum 5 = .ok (.iload 5, 2) := by decide +kernel
theorem d_Mo_sum_7 : decode c_Mo_sum 7 = .ok (.invokevirtual 351, 3) := by decide +kernel
theorem d_Mo_sum_10 : decode c_Mo_sum 10 = .ok (.iconst 0, 1) := by decide +kernel
theorem d_Mo_sum_11 : decode c_Mo_sum 11 = .ok (.istore 6, 2) := by decide +kernel
theorem d_Mo_sum_13 : decode c_Mo_sum 13 = .ok (.iload 6, 2) := by decide +kernel
theorem d_Mo_sum_15 : decode c_Mo_sum 15 = .ok (.aload_n 0, 1) := by decide +kernel
theorem d_Mo_sum_16 : decode c_Mo_sum 16 = .ok (.getfield 286, 3) := by decide +kernel
theorem d_Mo_sum_19 : decode c_Mo_sum 19 = .ok (.if_icmp .ge 28, 3) := by decide +kernel
theorem d_Mo_sum_22 : decode c_Mo_sum 22 = .ok (.aload_n 0, 1) := by decide +kernel
theorem d_Mo_sum_23 : decode c_Mo_sum 23 = .ok (.getfield 83, 3) := by decide +kernel
theorem d_Mo_sum_26 : decode c_Mo_sum 26 = .ok (.iload_n 1, 1) := by decide +kernel
theorem d_Mo_sum_27 : decode c_Mo_sum 27 = .ok (.bipush 80, 2) := by decide +kernel
theorem d_Mo_sum_29 : decode c_Mo_sum 29 = .ok (.imul, 1) := by decide +kernel
theorem d_Mo_sum_30 : decode c_Mo_sum 30 = .ok (.iload 6, 2) := by decide +kernel
theorem d_Mo_sum_32 : decode c_Mo_sum 32 = .ok (.iadd, 1) := by decide +kernel
theorem d_Mo_sum_33 : decode c_Mo_sum 33 = .ok (.aload_n 0, 1) := by decide +kernel
theorem d_Mo_sum_34 : decode c_Mo_sum 34 = .ok (.getfield 93, 3) := by decide +kernel
theorem d_Mo_sum_37 : decode c_Mo_sum 37 = .ok (.iload 6, 2) := by decide +kernel
theorem d_Mo_sum_39 : decode c_Mo_sum 39 = .ok (.iaload, 1) := by decide +kernel
theorem d_Mo_sum_40 : decode c_Mo_sum 40 = .ok (.iastore, 1) := by decide +kernel
theorem d_Mo_sum_41 : decode c_Mo_sum 41 = .ok (.iinc 6 1, 3) := by decide +kernel
theorem d_Mo_sum_44 : decode c_Mo_sum 44 = .ok (.goto (-31), 3) := by decide +kernel
theorem d_Mo_sum_47 : decode c_Mo_sum 47 = .ok (.aload_n 0, 1) := by decide +kernel
theorem d_Mo_sum_48 : decode c_Mo_sum 48 = .ok (.getfield 86, 3) := by decide +kernel
theorem d_Mo_sum_51 : decode c_Mo_sum 51 = .ok (.iload_n 1, 1) := by decide +kernel
theorem d_Mo_sum_52 : decode c_Mo_sum 52 = .ok (.aload_n 0, 1) := by decide +kernel
theorem d_Mo_sum_53 : decode c_Mo_sum 53 = .ok (.getfield 286, 3) := by decide +kernel
theorem d_Mo_sum_56 : decode c_Mo_sum 56 = .ok (.iastore, 1) := by decide +kernel
theorem d_Mo_sum_57 : decode c_Mo_sum 57 = .ok (.aload_n 0, 1) := by decide +kernel
theorem d_Mo_sum_58 : decode c_Mo_sum 58 = .ok (.getfield 89, 3) := by decide +kernel
theorem d_Mo_sum_61 : decode c_Mo_sum 61 = .ok (.iload_n 1, 1) := by decide +kernel
theorem d_Mo_sum_62 : decode c_Mo_sum 62 = .ok (.aload_n 0, 1) := by decide +kernel
theorem d_Mo_sum_63 : decode c_Mo_sum 63 = .ok (.getfield 286, 3) := by decide +kernel
theorem d_Mo_sum_66 : decode c_Mo_sum 66 = .ok (.ifCond .le 14, 3) := by decide +kernel
theorem d_Mo_sum_69 : decode c_Mo_sum 69 = .ok (.aload_n 0, 1) := by decide +kernel
theorem d_Mo_sum_70 : decode c_Mo_sum 70 = .ok (.getfield 289, 3) := by decide +kernel
theorem d_Mo_sum_73 : decode c_Mo_sum 73 = .ok (.ifCond .eq 7, 3) := by decide +kernel
theorem d_Mo_sum_76 : decode c_Mo_sum 76 = .ok (.iconst 1, 1) := by decide +kernel
theorem d_Mo_sum_77 : decode c_Mo_sum 77 = .ok (.goto 4, 3) := by decide +kernel
theorem d_Mo_sum_80 : decode c_Mo_sum 80 = .ok (.iconst 0, 1) := by decide +kernel
theorem d_Mo_sum_81 : decode c_Mo_sum 81 = .ok (.bastore, 1) := by decide +kernel
theorem d_Mo_sum_82 : decode c_Mo_sum 82 = .ok (.return_, 1) := by decide +kernel
set_option maxRecDepth 100000 in
set_option maxHeartbeats 16000000 in
/-- sum(c0, x, y, a, b) -/
theorem g_Mo_sum (l : Launch) (G : va_G) (k : Nat → ClassId) (h0 : Nat) (s0 : Nat) (c0 : Nat) (x : Nat) (y : Nat) (a : Nat) (b : Nat) (ma : Nat → Nat) (iv : Nat → Int32) (co : Int64) (dg : Nat → Nat) (sz : Nat → Nat) (bl : Nat → Nat) (T1 : Nat → Nat) (T2 : Nat → Nat) (T : Nat → Int) (hT : tbO dg sz bl T) (kc : c0 < 3998) (kx : x < 3998) (ky : y < 3998) (ka : a < 3998) (kb : b < 3998) (dT1 : ∀ i, i < 170 → T1 i < 65536) (dT2 : ∀ i, i < 170 → T2 i < 65536) (hbig : (T x * T y + T a * T b).natAbs < 65536 ^ 80) : CV l y_Mo_sum c_Mo_sum 7 { frames := 4, cells := 0, slots := 0, locals := 164 } [.ref h0, .int (nI c0), .int (nI x), .int (nI y), .int (nI a), .int (nI b)] G k s0 [(h0, .inr (8, moL ma iv co)), ((ma 21), .inl (k 0, 319840, .inl (fun i => nI (dg i)))), ((ma 22), .inl (k 0, 3998, .inl (fun i => nI (sz i)))), ((ma 23), .inl (k 2, 3998, .inl (fun i => nI (bl i)))), ((ma 24), .inl (k 0, 170, .inl (fun i => nI (T1 i)))), ((ma 25), .inl (k 0, 170, .inl (fun i => nI (T2 i))))] (fun (u : (Nat → Nat → Nat) × (Nat → Int32)) => tbO (u.1 0) (u.1 1) (u.1 2) (va_up T c0 (T x * T y + T a * T b)) ∧ (∀ i, i < 170 → u.1 3 i < 65536) ∧ (∀ i, i < 170 → u.1 4 i < 65536)) (fun u => [(h0, .inr (8, moL ma (va_up (va_up (va_up (va_up iv 19 (u.2 0)) 20 (u.2 1)) 21 (u.2 2)) 22 (u.2 3)) co)), ((ma 21), .inl (k 0, 319840, .inl (fun i => nI (u.1 0 i)))), ((ma 22), .inl (k 0, 3998, .inl (fun i => nI (u.1 1 i)))), ((ma 23), .inl (k 2, 3998, .inl (fun i => nI (u.1 2 i)))), ((ma 24), .inl (k 0, 170, .inl (fun i => nI (u.1 3 i)))), ((ma 25), .inl (k 0, 170, .inl (fun i => nI (u.1 4 i))))]) 0 0 := by
  refine met_start (by decide) (Nat.le_of_ble_eq_true rfl) ?_
  intro p e s m below meth c C K hA hsz S ls hl
  generalize va_A [(h0, .inr (8, moL ma iv co)), ((ma 21), .inl (k 0, 319840, .inl (fun i => nI (dg i)))), ((ma 22), .inl (k 0, 3998, .inl (fun i => nI (sz i)))), ((ma 23), .inl (k 2, 3998, .inl (fun i => nI (bl i)))), ((ma 24), .inl (k 0, 170, .inl (fun i => nI (T1 i)))), ((ma 25), .inl (k 0, 170, .inl (fun i => nI (T2 i))))] s0 = A at hA S ⊢
  have hx := C.1
  have hb := C.2.1
  have hl : lv_has ls 7 [(0, .ref h0), (1, .int (nI c0)), (2, .int (nI x)), (3, .int (nI y)), (4, .int (nI a)), (5, .int (nI b))] := hl
  refine lv_aload_n hx hb d_Mo_sum_0 rfl (lv_at hl 0 rfl) ?_
  refine lv_iload_n hx hb d_Mo_sum_1 rfl (lv_at hl 2 rfl) ?_
  refine lv_iload_n hx hb d_Mo_sum_2 rfl (lv_at hl 3 rfl) ?_
  refine lv_iload hx hb d_Mo_sum_3 (lv_at hl 4 rfl) ?_
  refine lv_iload hx hb d_Mo_sum_5 (lv_at hl 5 rfl) ?_
  refine r_backv (wi := [(h0, .inr (8, moL ma iv co)), ((ma 21), .inl (k 0, 319840, .inl (fun i => nI (dg i)))), ((ma 22), .inl (k 0, 3998, .inl (fun i => nI (sz i)))), ((ma 23), .inl (k 2, 3998, .inl (fun i => nI (bl i)))), ((ma 24), .inl (k 0, 170, .inl (fun i => nI (T1 i)))), ((ma 25), .inl (k 0, 170, .inl (fun i => nI (T2 i))))]) (wr := []) S hA [0, 1, 2, 3, 4, 5] [] rfl rfl (by decide) (by decide) (va_runV (As := [.int (nI x), .int (nI y), .int (nI a), .int (nI b)]) (rest := []) ⟨hx, hb, C.2.2.1, C.2.2.2.1, C.2.2.2.2.1⟩ (g_Mo_products l G k h0 _ x y a b ma iv co dg sz bl T1 T2 (by first | assumption | omega) (by first | assumption | omega) (by first | assumption | omega) (by first | assumption | omega) (hT.2 x kx).1 (hT.2 y ky).1 (hT.2 a ka).1 (hT.2 b kb).1 (hT.2 x kx).2.1 (hT.2 y ky).2.1 (hT.2 a ka).2.1 (hT.2 b kb).2.1 hT.1 (by first | assumption | omega) (by first | assumption | omega)) (k_virt (n := 4) C wc_Mo_products rfl rfl wz_Mo wm_Mo_351 wn_Mo_products ws_Mo_products (by decide +kernel) ⟨(Nat.le_of_ble_eq_true rfl), (Nat.le_of_ble_eq_true rfl)⟩) (pr_nowV K S [0, 1, 2, 3, 4, 5] (by decide) rfl 0 rfl rfl) rfl rfl hl.1 rfl (lv_room (Nat.le_of_ble_eq_true rfl)) d_Mo_sum_7 ⟨(Nat.le_of_ble_eq_true rfl), (Nat.le_of_ble_eq_true rfl)⟩) (fun u H locs hw1 S => ?_)
  have S : Sw G A s.heap _ _ [(h0, .inr (8, moL ma (va_up (va_up (va_up (va_up iv 21 (nI u.2.2.2.1)) 22 (nI u.2.2.2.2.2)) 20 (nI u.2.2.2.2.1)) 19 (nI u.2.2.1)) co)), ((ma 21), .inl (k 0, 319840, .inl (fun i => nI (dg i)))), ((ma 22), .inl (k 0, 3998, .inl (fun i => nI (sz i)))), ((ma 23), .inl (k 2, 3998, .inl (fun i => nI (bl i)))), ((ma 24), .inl (k 0, 170, .inl (fun i => nI (u.1 i)))), ((ma 25), .inl (k 0, 170, .inl (fun i => nI (u.2.1 i))))] := S
  obtain ⟨hX, hn1, htr, dA, dB, hob⟩ := hw1
  rw [(hT.2 x kx).2.2.2.2, (hT.2 y ky).2.2.2.2, (hT.2 a ka).2.2.2.2, (hT.2 b kb).2.2.2.2] at hX
  have hn8 : u.2.2.1 ≤ 80 := qn_le (v := (T x * T y + T a * T b).natAbs) (by rw [← hX, sv_abs]) hbig htr
  refine lv_iconst (v := 0) hx hb d_Mo_sum_10 (by decide) ?_
  refine lv_istore (lv' := [(6, .int 0), (0, .ref h0), (1, .int (nI c0)), (2, .int (nI x)), (3, .int (nI y)), (4, .int (nI a)), (5, .int (nI b))]) hx hb d_Mo_sum_11 hl (by decide) rfl (fun ls hl => ?_)
  have S : Sw G A s.heap H locs [(h0, .inr (8, moL ma (va_up (va_up (va_up (va_up iv 21 (nI u.2.2.2.1)) 22 (nI u.2.2.2.2.2)) 20 (nI u.2.2.2.2.1)) 19 (nI u.2.2.1)) co)), ((ma 21), .inl (k 0, 319840, .inl (fun i => nI ((dgQ dg u.1 (c0 * 80) 0) i)))), ((ma 22), .inl (k 0, 3998, .inl (fun i => nI (sz i)))), ((ma 23), .inl (k 2, 3998, .inl (fun i => nI (bl i)))), ((ma 24), .inl (k 0, 170, .inl (fun i => nI (u.1 i)))), ((ma 25), .inl (k 0, 170, .inl (fun i => nI (u.2.1 i))))] := by rw [dgQ_0]; exact S
  have lp : ∀ d9, ∀ (t : Nat), (u.2.2.1 - t) < d9 → (t ≤ u.2.2.1) → ∀ (H : Heap) (locs : List Loc), Sw G A s.heap H locs [(h0, .inr (8, moL ma (va_up (va_up (va_up (va_up iv 21 (nI u.2.2.2.1)) 22 (nI u.2.2.2.2.2)) 20 (nI u.2.2.2.2.1)) 19 (nI u.2.2.1)) co)), ((ma 21), .inl (k 0, 319840, .inl (fun i => nI ((dgQ dg u.1 (c0 * 80) t) i)))), ((ma 22), .inl (k 0, 3998, .inl (fun i => nI (sz i)))), ((ma 23), .inl (k 2, 3998, .inl (fun i => nI (bl i)))), ((ma 24), .inl (k 0, 170, .inl (fun i => nI (u.1 i)))), ((ma 25), .inl (k 0, 170, .inl (fun i => nI (u.2.1 i))))] → ∀ ls : Array Slot, lv_has ls 7 [(6, .int (nI t)), (0, .ref h0), (1, .int (nI c0)), (2, .int (nI x)), (3, .int (nI y)), (4, .int (nI a)), (5, .int (nI b))] → W p l e { frames := 4, cells := 0, slots := 0, locals := 164 } s m [Value.ref h0, Value.int (nI c0), Value.int (nI x), Value.int (nI y), Value.int (nI a), Value.int (nI b)].toArray below meth c H locs 0 0 (MQ below (va_Qv (fun (u : (Nat → Nat → Nat) × (Nat → Int32)) => tbO (u.1 0) (u.1 1) (u.1 2) (va_up T c0 (T x * T y + T a * T b)) ∧ (∀ i, i < 170 → u.1 3 i < 65536) ∧ (∀ i, i < 170 → u.1 4 i < 65536)) (Po G k A (fun u => [(h0, .inr (8, moL ma (va_up (va_up (va_up (va_up iv 19 (u.2 0)) 20 (u.2 1)) 21 (u.2 2)) 22 (u.2 3)) co)), ((ma 21), .inl (k 0, 319840, .inl (fun i => nI (u.1 0 i)))), ((ma 22), .inl (k 0, 3998, .inl (fun i => nI (u.1 1 i)))), ((ma 23), .inl (k 2, 3998, .inl (fun i => nI (u.1 2 i)))), ((ma 24), .inl (k 0, 170, .inl (fun i => nI (u.1 3 i)))), ((ma 25), .inl (k 0, 170, .inl (fun i => nI (u.1 4 i))))])) A) [Value.ref h0, Value.int (nI c0), Value.int (nI x), Value.int (nI y), Value.int (nI a), Value.int (nI b)].toArray s 0 0 A) (F0 m 13 ls []) := by
    intro d9
    induction d9 with
    | zero => intro t hm; exact absurd hm (Nat.not_lt_zero _)
    | succ d9 ih =>
      intro t hm ht H locs S ls hl
      refine lv_iload hx hb d_Mo_sum_13 (lv_at hl 0 rfl) ?_
      refine lv_aload_n hx hb d_Mo_sum_15 rfl (lv_at hl 1 rfl) ?_
      refine r_get C K S 0 rfl rfl clOk_Mo 48 (by decide) wf_Mo_286 (v := .int (nI u.2.2.1)) rfl d_Mo_sum_16 ?_
      refine z_icmp_ge (a := t) (b := u.2.2.1) (tgt := 47) hx hb d_Mo_sum_19 (by decide) (by omega) (by omega) (fun hc2 => ?_) (fun hc2 => ?_)
      · have hte : t = u.2.2.1 := by omega
        refine lv_aload_n hx hb d_Mo_sum_47 rfl (lv_at hl 1 rfl) ?_
        refine r_get C K S 0 rfl rfl clOk_Mo 42 (by decide) wf_Mo_86 (v := .ref (ma 22)) rfl d_Mo_sum_48 ?_
        refine lv_iload_n hx hb d_Mo_sum_51 rfl (lv_at hl 2 rfl) ?_
        refine lv_aload_n hx hb d_Mo_sum_52 rfl (lv_at hl 1 rfl) ?_
        refine r_get C K S 0 rfl rfl clOk_Mo 48 (by decide) wf_Mo_286 (v := .int (nI u.2.2.1)) rfl d_Mo_sum_53 ?_
        refine r_iast C K S 2 rfl (i := nI c0) (x := nI u.2.2.1) (show vp_in (nI c0) _ from vp_in_nI (n := c0) (by omega) (by decide)) (f' := fun i => nI (va_up sz c0 u.2.2.1 i)) (ws' := [(h0, .inr (8, moL ma (va_up (va_up (va_up (va_up iv 21 (nI u.2.2.2.1)) 22 (nI u.2.2.2.2.2)) 20 (nI u.2.2.2.2.1)) 19 (nI u.2.2.1)) co)), ((ma 21), .inl (k 0, 319840, .inl (fun i => nI ((dgQ dg u.1 (c0 * 80) t) i)))), ((ma 22), .inl (k 0, 3998, .inl (fun i => nI (va_up sz c0 u.2.2.1 i)))), ((ma 23), .inl (k 2, 3998, .inl (fun i => nI (bl i)))), ((ma 24), .inl (k 0, 170, .inl (fun i => nI (u.1 i)))), ((ma 25), .inl (k 0, 170, .inl (fun i => nI (u.2.1 i))))]) (show upd _ (nI c0 : Int32).toNatClampNeg (nI u.2.2.1) = _ from upd_nI sz (j := c0) (by omega) u.2.2.1) rfl d_Mo_sum_56 (fun H locs S => ?_)
        refine lv_aload_n hx hb d_Mo_sum_57 rfl (lv_at hl 1 rfl) ?_
        refine r_get C K S 0 rfl rfl clOk_Mo 43 (by decide) wf_Mo_89 (v := .ref (ma 23)) rfl d_Mo_sum_58 ?_
        refine lv_iload_n hx hb d_Mo_sum_61 rfl (lv_at hl 2 rfl) ?_
        refine lv_aload_n hx hb d_Mo_sum_62 rfl (lv_at hl 1 rfl) ?_
        refine r_get C K S 0 rfl rfl clOk_Mo 48 (by decide) wf_Mo_286 (v := .int (nI u.2.2.1)) rfl d_Mo_sum_63 ?_
        refine z_if_le (a := u.2.2.1) (tgt := 80) hx hb d_Mo_sum_66 (by decide) (by omega) (fun hc3 => ?_) (fun hc3 => ?_)
        · refine lv_iconst (v := 0) hx hb d_Mo_sum_80 (by decide) ?_
          refine r_zast C K S 3 rfl (i := nI c0) (x := 0) (show vp_in (nI c0) _ from vp_in_nI (n := c0) (by omega) (by decide)) (f' := fun i => nI (va_up bl c0 0 i)) (ws' := [(h0, .inr (8, moL ma (va_up (va_up (va_up (va_up iv 21 (nI u.2.2.2.1)) 22 (nI u.2.2.2.2.2)) 20 (nI u.2.2.2.2.1)) 19 (nI u.2.2.1)) co)), ((ma 21), .inl (k 0, 319840, .inl (fun i => nI ((dgQ dg u.1 (c0 * 80) t) i)))), ((ma 22), .inl (k 0, 3998, .inl (fun i => nI (va_up sz c0 u.2.2.1 i)))), ((ma 23), .inl (k 2, 3998, .inl (fun i => nI (va_up bl c0 0 i)))), ((ma 24), .inl (k 0, 170, .inl (fun i => nI (u.1 i)))), ((ma 25), .inl (k 0, 170, .inl (fun i => nI (u.2.1 i))))]) (show upd _ (nI c0 : Int32).toNatClampNeg (vp_nar .boolean 0) = _ from upd_Z bl (j := c0) (v := 0) (by omega) (by omega)) rfl d_Mo_sum_81 (fun H locs S => ?_)
          exact r_vret C K (uz [dgQ dg u.1 (c0 * 80) t, va_up sz c0 u.2.2.1, va_up bl c0 0, u.1, u.2.1], fz (nI u.2.2.1) (nI u.2.2.2.2.1) (nI u.2.2.2.1) (nI u.2.2.2.2.2) 0) ⟨by show tbO (dgQ dg u.1 (c0 * 80) t) _ _ _; rw [hte]; exact tbO_keepB hT hn8 (by decide) dA htr (fun _ => rfl) (by rw [← hX, hc3]; exact sv_z _ _ _), dA, dB⟩ (S.sub [0, 1, 2, 3, 4, 5] (by decide) rfl) d_Mo_sum_82 (Nat.le_of_ble_eq_true rfl) (Nat.le_of_ble_eq_true rfl)
        · refine lv_aload_n hx hb d_Mo_sum_69 rfl (lv_at hl 1 rfl) ?_
          refine r_get C K S 0 rfl rfl clOk_Mo 50 (by decide) wf_Mo_289 (v := .int (nI u.2.2.2.1)) rfl d_Mo_sum_70 ?_
          refine z_if_eq (a := u.2.2.2.1) (tgt := 80) hx hb d_Mo_sum_73 (by decide) (by omega) (fun hc4 => ?_) (fun hc4 => ?_)
          · refine lv_iconst (v := 0) hx hb d_Mo_sum_80 (by decide) ?_
            refine r_zast C K S 3 rfl (i := nI c0) (x := 0) (show vp_in (nI c0) _ from vp_in_nI (n := c0) (by omega) (by decide)) (f' := fun i => nI (va_up bl c0 0 i)) (ws' := [(h0, .inr (8, moL ma (va_up (va_up (va_up (va_up iv 21 (nI u.2.2.2.1)) 22 (nI u.2.2.2.2.2)) 20 (nI u.2.2.2.2.1)) 19 (nI u.2.2.1)) co)), ((ma 21), .inl (k 0, 319840, .inl (fun i => nI ((dgQ dg u.1 (c0 * 80) t) i)))), ((ma 22), .inl (k 0, 3998, .inl (fun i => nI (va_up sz c0 u.2.2.1 i)))), ((ma 23), .inl (k 2, 3998, .inl (fun i => nI (va_up bl c0 0 i)))), ((ma 24), .inl (k 0, 170, .inl (fun i => nI (u.1 i)))), ((ma 25), .inl (k 0, 170, .inl (fun i => nI (u.2.1 i))))]) (show upd _ (nI c0 : Int32).toNatClampNeg (vp_nar .boolean 0) = _ from upd_Z bl (j := c0) (v := 0) (by omega) (by omega)) rfl d_Mo_sum_81 (fun H locs S => ?_)
            exact r_vret C K (uz [dgQ dg u.1 (c0 * 80) t, va_up sz c0 u.2.2.1, va_up bl c0 0, u.1, u.2.1], fz (nI u.2.2.1) (nI u.2.2.2.2.1) (nI u.2.2.2.1) (nI u.2.2.2.2.2) 0) ⟨by show tbO (dgQ dg u.1 (c0 * 80) t) _ _ _; rw [hte]; exact tbO_keepB hT hn8 (by decide) dA htr (fun _ => rfl) (by rw [← hX, show u.2.2.2.1 = 0 by omega]), dA, dB⟩ (S.sub [0, 1, 2, 3, 4, 5] (by decide) rfl) d_Mo_sum_82 (Nat.le_of_ble_eq_true rfl) (Nat.le_of_ble_eq_true rfl)
          · refine lv_iconst (v := 1) hx hb d_Mo_sum_76 (by decide) ?_
            refine lv_goto (tgt := 81) hx hb d_Mo_sum_77 (by decide) ?_
            refine r_zast C K S 3 rfl (i := nI c0) (x := 1) (show vp_in (nI c0) _ from vp_in_nI (n := c0) (by omega) (by decide)) (f' := fun i => nI (va_up bl c0 1 i)) (ws' := [(h0, .inr (8, moL ma (va_up (va_up (va_up (va_up iv 21 (nI u.2.2.2.1)) 22 (nI u.2.2.2.2.2)) 20 (nI u.2.2.2.2.1)) 19 (nI u.2.2.1)) co)), ((ma 21), .inl (k 0, 319840, .inl (fun i => nI ((dgQ dg u.1 (c0 * 80) t) i)))), ((ma 22), .inl (k 0, 3998, .inl (fun i => nI (va_up sz c0 u.2.2.1 i)))), ((ma 23), .inl (k 2, 3998, .inl (fun i => nI (va_up bl c0 1 i)))), ((ma 24), .inl (k 0, 170, .inl (fun i => nI (u.1 i)))), ((ma 25), .inl (k 0, 170, .inl (fun i => nI (u.2.1 i))))]) (show upd _ (nI c0 : Int32).toNatClampNeg (vp_nar .boolean 1) = _ from upd_Z bl (j := c0) (v := 1) (by omega) (by omega)) rfl d_Mo_sum_81 (fun H locs S => ?_)
            exact r_vret C K (uz [dgQ dg u.1 (c0 * 80) t, va_up sz c0 u.2.2.1, va_up bl c0 1, u.1, u.2.1], fz (nI u.2.2.1) (nI u.2.2.2.2.1) (nI u.2.2.2.1) (nI u.2.2.2.2.2) 0) ⟨by show tbO (dgQ dg u.1 (c0 * 80) t) _ _ _; rw [hte]; exact tbO_keepB hT hn8 (by decide) dA htr (fun q => by omega) (by rw [← hX, show u.2.2.2.1 = 1 by omega]), dA, dB⟩ (S.sub [0, 1, 2, 3, 4, 5] (by decide) rfl) d_Mo_sum_82 (Nat.le_of_ble_eq_true rfl) (Nat.le_of_ble_eq_true rfl)
      · refine lv_aload_n hx hb d_Mo_sum_22 rfl (lv_at hl 1 rfl) ?_
        refine r_get C K S 0 rfl rfl clOk_Mo 41 (by decide) wf_Mo_83 (v := .ref (ma 21)) rfl d_Mo_sum_23 ?_
        refine lv_iload_n hx hb d_Mo_sum_26 rfl (lv_at hl 2 rfl) ?_
        refine lv_bipush (v := 80) hx hb d_Mo_sum_27 (by decide) ?_
        refine z_imul (x := nI c0) (y := 80) (v := nI (c0 * 80)) hx hb d_Mo_sum_29 (pk_mul c0 80) ?_
        refine lv_iload hx hb d_Mo_sum_30 (lv_at hl 0 rfl) ?_
        refine z_iadd (x := nI (c0 * 80)) (y := nI t) (v := nI (c0 * 80 + t)) hx hb d_Mo_sum_32 (nI_add (c0 * 80) t) ?_
        refine lv_aload_n hx hb d_Mo_sum_33 rfl (lv_at hl 1 rfl) ?_
        refine r_get C K S 0 rfl rfl clOk_Mo 44 (by decide) wf_Mo_93 (v := .ref (ma 24)) rfl d_Mo_sum_34 ?_
        refine lv_iload hx hb d_Mo_sum_37 (lv_at hl 0 rfl) ?_
        refine r_iald C K S 4 rfl (i := nI t) (show vp_in (nI t) _ from vp_in_nI (n := t) (by omega) (by decide)) (v := nI (u.1 t)) (by rw [nI_clamp (by omega)]) d_Mo_sum_39 ?_
        refine r_iast C K S 1 rfl (i := nI (c0 * 80 + t)) (x := nI (u.1 t)) (show vp_in (nI (c0 * 80 + t)) _ from vp_in_nI (n := (c0 * 80 + t)) (by omega) (by decide)) (f' := fun i => nI (va_up (dgQ dg u.1 (c0 * 80) t) (c0 * 80 + t) (u.1 t) i)) (ws' := [(h0, .inr (8, moL ma (va_up (va_up (va_up (va_up iv 21 (nI u.2.2.2.1)) 22 (nI u.2.2.2.2.2)) 20 (nI u.2.2.2.2.1)) 19 (nI u.2.2.1)) co)), ((ma 21), .inl (k 0, 319840, .inl (fun i => nI (va_up (dgQ dg u.1 (c0 * 80) t) (c0 * 80 + t) (u.1 t) i)))), ((ma 22), .inl (k 0, 3998, .inl (fun i => nI (sz i)))), ((ma 23), .inl (k 2, 3998, .inl (fun i => nI (bl i)))), ((ma 24), .inl (k 0, 170, .inl (fun i => nI (u.1 i)))), ((ma 25), .inl (k 0, 170, .inl (fun i => nI (u.2.1 i))))]) (show upd _ (nI (c0 * 80 + t) : Int32).toNatClampNeg (nI (u.1 t)) = _ from upd_nI (dgQ dg u.1 (c0 * 80) t) (j := (c0 * 80 + t)) (by omega) (u.1 t)) rfl d_Mo_sum_40 (fun H locs S => ?_)
        have S : Sw G A s.heap H locs [(h0, .inr (8, moL ma (va_up (va_up (va_up (va_up iv 21 (nI u.2.2.2.1)) 22 (nI u.2.2.2.2.2)) 20 (nI u.2.2.2.2.1)) 19 (nI u.2.2.1)) co)), ((ma 21), .inl (k 0, 319840, .inl (fun i => nI ((dgQ dg u.1 (c0 * 80) (t + 1)) i)))), ((ma 22), .inl (k 0, 3998, .inl (fun i => nI (sz i)))), ((ma 23), .inl (k 2, 3998, .inl (fun i => nI (bl i)))), ((ma 24), .inl (k 0, 170, .inl (fun i => nI (u.1 i)))), ((ma 25), .inl (k 0, 170, .inl (fun i => nI (u.2.1 i))))] := by rw [dgQ_s] at S; exact S
        refine lv_iinc (v := nI (t + 1)) (lv' := [(6, .int (nI (t + 1))), (0, .ref h0), (1, .int (nI c0)), (2, .int (nI x)), (3, .int (nI y)), (4, .int (nI a)), (5, .int (nI b))]) hx hb d_Mo_sum_41 hl (k := 0) rfl (show nI t + Int32.ofInt 1 = nI (t + 1) from (nI_add t 1).trans (congrArg nI (by omega))) (by decide) rfl (fun ls hl => ?_)
        refine lv_goto (tgt := 13) hx hb d_Mo_sum_44 (by decide) ?_
        exact ih (t + 1) (by omega) (by omega) _ _ (S.sub [0, 1, 2, 3, 4, 5] (by decide) rfl) ls (lv_sub hl [0, 1, 2, 3, 4, 5, 6] rfl)
  exact lp _ 0 (Nat.lt_succ_self _) (by omega) _ _ (S.sub [0, 1, 2, 3, 4, 5] (by decide) rfl) ls (lv_sub hl [0, 1, 2, 3, 4, 5, 6] rfl)
end
section
theorem va_same {α : Type} (f : Nat → α) {a : Nat} {v : α} (h : v = f a) : va_up f a v = f := by
  funext i
  by_cases q : i = a
  · rw [q, va_up_self, h]
  · rw [va_up_ne _ _ q]
theorem va_over {α : Type} (f : Nat → α) (a : Nat) (v w : α) : va_up (va_up f a v) a w = va_up f a w := by
  funext i
  by_cases q : i = a
  · rw [q, va_up_self, va_up_self]
  · rw [va_up_ne _ _ q, va_up_ne _ _ q, va_up_ne _ _ q]
theorem tt_back (X : Nat → Int) (p : Nat) : va_up (va_up X p (- X p)) p (- (va_up X p (- X p)) p) = X := by
  rw [va_over, va_up_self, Int.neg_neg]
  exact va_same X rfl
theorem tbO_pos {dg sz bl : Nat → Nat} {T : Nat → Int} {c : Nat} (h : nmO dg sz bl c (T c)) (h1 : 0 < T c) : 0 < sz c ∧ dg (c * 80 + (sz c - 1)) ≠ 0 := by
  have e : sz c ≠ 0 := fun q => by have := (nmO_zero h).mp q; omega
  exact ⟨by omega, h.2.2.1.resolve_left e⟩
/-- the cell that an exchange reckons -/
theorem rb_X {P T0 Q R Z : Int} (h : P * T0 - Q * R = Z) : - P * T0 + Q * R = - Z := by
  rw [Int.neg_mul]
  omega
theorem rbT_zero {un r s i j : Nat} {T : Nat → Int} (hC : isC un j) (hjs : j ≠ s) (h1 : T (42 * i + j) = 0) (h2 : T (42 * i + s) = 0 ∨ T (42 * r + j) = 0) : rbT un r s i (j + 1) T = rbT un r s i j T := by
  rw [rbT_s hC hjs]
  refine va_same _ ?_
  rw [rbT_out (by omega), h1]
  unfold rbV
  rw [h1, Int.mul_zero]
  have e : T (42 * i + s) * T (42 * r + j) = 0 := by
    rcases h2 with h | h
    · rw [h, Int.zero_mul]
    · rw [h, Int.mul_zero]
  rw [e, Int.sub_zero, Int.zero_ediv, Int.mul_zero]
theorem d_Mo_rowBy_0 : decode c_Mo_rowBy 0 = .ok (.iload_n 2, 1) := by decide +kernel
theorem d_Mo_rowBy_1 : decode c_Mo_rowBy 1 = .ok (.iload_n 3, 1) := by decide +kernel
theorem d_Mo_rowBy_2 : decode c_Mo_rowBy 2 = .ok (.invokestatic 328, 3) := by decide +kernel
theorem d_Mo_rowBy_5 : decode c_Mo_rowBy 5 = .ok (.istore 5, 2) := by decide +kernel
theorem d_Mo_rowBy_7 : decode c_Mo_rowBy 7 = .ok (.iload_n 1, 1) := by decide +kernel
theorem d_Mo_rowBy_8 : decode c_Mo_rowBy 8 = .ok (.iload_n 3, 1) := by decide +kernel
theorem d_Mo_rowBy_9 : decode c_Mo_rowBy 9 = .ok (.invokestatic 328, 3) := by decide +kernel
theorem d_Mo_rowBy_12 : decode c_Mo_rowBy 12 = .ok (.istore 6, 2) := by decide +kernel
theorem d_Mo_rowBy_14 : decode c_Mo_rowBy 14 = .ok (.iconst 0, 1) := by decide +kernel
theorem d_Mo_rowBy_15 : decode c_Mo_rowBy 15 = .ok (.istore 7, 2) := by decide +kernel
theorem d_Mo_rowBy_17 : decode c_Mo_rowBy 17 = .ok (.iload 7, 2) := by decide +kernel
theorem d_Mo_rowBy_19 : decode c_Mo_rowBy 19 = .ok (.bipush 41, 2) := by decide +kernel
theorem d_Mo_rowBy_21 : decode c_Mo_rowBy 21 = .ok (.if_icmp .gt 122, 3) := by decide +kernel
theorem d_Mo_rowBy_24 : decode c_Mo_rowBy 24 = .ok (.iload 7, 2) := by decide +kernel
theorem d_Mo_rowBy_26 : decode c_Mo_rowBy 26 = .ok (.iload_n 3, 1) := by decide +kernel
theorem d_Mo_rowBy_27 : decode c_Mo_rowBy 27 = .ok (.if_icmp .eq 110, 3) := by decide +kernel
theorem d_Mo_rowBy_30 : decode c_Mo_rowBy 30 = .ok (.iload 7, 2) := by decide +kernel
theorem d_Mo_rowBy_32 : decode c_Mo_rowBy 32 = .ok (.aload_n 0, 1) := by decide +kernel
theorem d_Mo_rowBy_33 : decode c_Mo_rowBy 33 = .ok (.getfield 192, 3) := by decide +kernel
theorem d_Mo_rowBy_36 : decode c_Mo_rowBy 36 = .ok (.if_icmp .le 13, 3) := by decide +kernel
theorem d_Mo_rowBy_39 : decode c_Mo_rowBy 39 = .ok (.iload 7, 2) := by decide +kernel
theorem d_Mo_rowBy_41 : decode c_Mo_rowBy 41 = .ok (.bipush 41, 2) := by decide +kernel
theorem d_Mo_rowBy_43 : decode c_Mo_rowBy 43 = .ok (.if_icmp .ge 6, 3) := by decide +kernel
theorem d_Mo_rowBy_46 : decode c_Mo_rowBy 46 = .ok (.goto 91, 3) := by decide +kernel
theorem d_Mo_rowBy_49 : decode c_Mo_rowBy 49 = .ok (.iload_n 1, 1) := by decide +kernel
theorem d_Mo_rowBy_50 : decode c_Mo_rowBy 50 = .ok (.iload 7, 2) := by decide +kernel
theorem d_Mo_rowBy_52 : decode c_Mo_rowBy 52 = .ok (.invokestatic 328, 3) := by decide +kernel
theorem d_Mo_rowBy_55 : decode c_Mo_rowBy 55 = .ok (.istore 8, 2) := by decide +kernel
theorem d_Mo_rowBy_57 : decode c_Mo_rowBy 57 = .ok (.aload_n 0, 1) := by decide +kernel
theorem d_Mo_rowBy_58 : decode c_Mo_rowBy 58 = .ok (.getfield 86, 3) := by decide +kernel
theorem d_Mo_rowBy_61 : decode c_Mo_rowBy 61 = .ok (.iload 8, 2) := by decide +kernel
theorem d_Mo_rowBy_63 : decode c_Mo_rowBy 63 = .ok (.iaload, 1) := by decide +kernel
theorem d_Mo_rowBy_64 : decode c_Mo_rowBy 64 = .ok (.ifCond .ne 30, 3) := by decide +kernel
theorem d_Mo_rowBy_67 : decode c_Mo_rowBy 67 = .ok (.aload_n 0, 1) := by decide +kernel
theorem d_Mo_rowBy_68 : decode c_Mo_rowBy 68 = .ok (.getfield 86, 3) := by decide +kernel
theorem d_Mo_rowBy_71 : decode c_Mo_rowBy 71 = .ok (.iload 6, 2) := by decide +kernel
theorem d_Mo_rowBy_73 : decode c_Mo_rowBy 73 = .ok (.iaload, 1) := by decide +kernel
theorem d_Mo_rowBy_74 : decode c_Mo_rowBy 74 = .ok (.ifCond .eq 63, 3) := by decide +kernel
theorem d_Mo_rowBy_77 : decode c_Mo_rowBy 77 = .ok (.aload_n 0, 1) := by decide +kernel
theorem d_Mo_rowBy_78 : decode c_Mo_rowBy 78 = .ok (.getfield 86, 3) := by decide +kernel
theorem d_Mo_rowBy_81 : decode c_Mo_rowBy 81 = .ok (.iload_n 2, 1) := by decide +kernel
theorem d_Mo_rowBy_82 : decode c_Mo_rowBy 82 = .ok (.iload 7, 2) := by decide +kernel
theorem d_Mo_rowBy_84 : decode c_Mo_rowBy 84 = .ok (.invokestatic 328, 3) := by decide +kernel
theorem d_Mo_rowBy_87 : decode c_Mo_rowBy 87 = .ok (.iaload, 1) := by decide +kernel
theorem d_Mo_rowBy_88 : decode c_Mo_rowBy 88 = .ok (.ifCond .ne 6, 3) := by decide +kernel
theorem d_Mo_rowBy_91 : decode c_Mo_rowBy 91 = .ok (.goto 46, 3) := by decide +kernel
theorem d_Mo_rowBy_94 : decode c_Mo_rowBy 94 = .ok (.aload_n 0, 1) := by decide +kernel
theorem d_Mo_rowBy_95 : decode c_Mo_rowBy 95 = .ok (.iload 5, 2) := by decide +kernel
theorem d_Mo_rowBy_97 : decode c_Mo_rowBy 97 = .ok (.invokevirtual 343, 3) := by decide +kernel
theorem d_Mo_rowBy_100 : decode c_Mo_rowBy 100 = .ok (.aload_n 0, 1) := by decide +kernel
theorem d_Mo_rowBy_101 : decode c_Mo_rowBy 101 = .ok (.iload 5, 2) := by decide +kernel
theorem d_Mo_rowBy_103 : decode c_Mo_rowBy 103 = .ok (.iload 8, 2) := by decide +kernel
theorem d_Mo_rowBy_105 : decode c_Mo_rowBy 105 = .ok (.iload 6, 2) := by decide +kernel
theorem d_Mo_rowBy_107 : decode c_Mo_rowBy 107 = .ok (.iload_n 2, 1) := by decide +kernel
theorem d_Mo_rowBy_108 : decode c_Mo_rowBy 108 = .ok (.iload 7, 2) := by decide +kernel
theorem d_Mo_rowBy_110 : decode c_Mo_rowBy 110 = .ok (.invokestatic 328, 3) := by decide +kernel
theorem d_Mo_rowBy_113 : decode c_Mo_rowBy 113 = .ok (.invokevirtual 351, 3) := by decide +kernel
theorem d_Mo_rowBy_116 : decode c_Mo_rowBy 116 = .ok (.aload_n 0, 1) := by decide +kernel
theorem d_Mo_rowBy_117 : decode c_Mo_rowBy 117 = .ok (.iload 5, 2) := by decide +kernel
theorem d_Mo_rowBy_119 : decode c_Mo_rowBy 119 = .ok (.invokevirtual 343, 3) := by decide +kernel
theorem d_Mo_rowBy_122 : decode c_Mo_rowBy 122 = .ok (.aload_n 0, 1) := by decide +kernel
theorem d_Mo_rowBy_123 : decode c_Mo_rowBy 123 = .ok (.sipush 3997, 3) := by decide +kernel
theorem d_Mo_rowBy_126 : decode c_Mo_rowBy 126 = .ok (.invokevirtual 354, 3) := by decide +kernel
theorem d_Mo_rowBy_129 : decode c_Mo_rowBy 129 = .ok (.aload_n 0, 1) := by decide +kernel
theorem d_Mo_rowBy_130 : decode c_Mo_rowBy 130 = .ok (.iload 8, 2) := by decide +kernel
theorem d_Mo_rowBy_132 : decode c_Mo_rowBy 132 = .ok (.iload 4, 2) := by decide +kernel
theorem d_Mo_rowBy_134 : decode c_Mo_rowBy 134 = .ok (.invokevirtual 357, 3) := by decide +kernel
theorem d_Mo_rowBy_137 : decode c_Mo_rowBy 137 = .ok (.iinc 7 1, 3) := by decide +kernel
theorem d_Mo_rowBy_140 : decode c_Mo_rowBy 140 = .ok (.goto (-123), 3) := by decide +kernel
theorem d_Mo_rowBy_143 : decode c_Mo_rowBy 143 = .ok (.iload 4, 2) := by decide +kernel
theorem d_Mo_rowBy_145 : decode c_Mo_rowBy 145 = .ok (.ifCond .ne 9, 3) := by decide +kernel
theorem d_Mo_rowBy_148 : decode c_Mo_rowBy 148 = .ok (.aload_n 0, 1) := by decide +kernel
theorem d_Mo_rowBy_149 : decode c_Mo_rowBy 149 = .ok (.iload 6, 2) := by decide +kernel
theorem d_Mo_rowBy_151 : decode c_Mo_rowBy 151 = .ok (.invokevirtual 343, 3) := by decide +kernel
theorem d_Mo_rowBy_154 : decode c_Mo_rowBy 154 = .ok (.return_, 1) := by decide +kernel
set_option maxRecDepth 100000 in
set_option maxHeartbeats 16000000 in
/-- rowBy(i, r, s, tu) -/
theorem g_Mo_rowBy (l : Launch) (G : va_G) (k : Nat → ClassId) (h0 : Nat) (s0 : Nat) (ri : Nat) (r : Nat) (c9 : Nat) (tu : Nat) (un : Nat) (ma : Nat → Nat) (iv : Nat → Int32) (co : Int64) (dg : Nat → Nat) (sz : Nat → Nat) (bl : Nat → Nat) (O : Nat → Nat) (T2 : Nat → Nat) (qt : Nat → Nat) (Dv : Nat → Nat) (T : Nat → Int) (hT : tbO dg sz bl T) (hi : ri < 95) (hr : r < 95) (hir : ri ≠ r) (hsu : c9 ≤ un) (hu : un ≤ 40) (h1 : 0 < T 3997) (htu : tu = if 0 < T (42 * r + c9) then 1 else 0) (hex : ∀ j, isC un j → j ≠ c9 → ∃ z : Int, T (42 * r + c9) * T (42 * ri + j) - T (42 * ri + c9) * T (42 * r + j) = T 3997 * z ∧ z.natAbs < 65536 ^ 80) (dO : ∀ i, i < 170 → O i < 65536) (d2 : ∀ i, i < 170 → T2 i < 65536) (dQ : ∀ i, i < 170 → qt i < 65536) (dD : ∀ i, i < 170 → Dv i < 65536) : CV l y_Mo_rowBy c_Mo_rowBy 9 { frames := 4, cells := 0, slots := 0, locals := 164 } [.ref h0, .int (nI ri), .int (nI r), .int (nI c9), .int (nI tu)] G k s0 [(h0, .inr (8, moL ma (va_up iv 14 (nI un)) co)), ((ma 21), .inl (k 0, 319840, .inl (fun i => nI (dg i)))), ((ma 22), .inl (k 0, 3998, .inl (fun i => nI (sz i)))), ((ma 23), .inl (k 2, 3998, .inl (fun i => nI (bl i)))), ((ma 24), .inl (k 0, 170, .inl (fun i => nI (O i)))), ((ma 25), .inl (k 0, 170, .inl (fun i => nI (T2 i)))), ((ma 26), .inl (k 0, 170, .inl (fun i => nI (qt i)))), ((ma 27), .inl (k 0, 170, .inl (fun i => nI (Dv i))))] (fun (u : (Nat → Nat → Nat) × (Nat → Int32)) => tbO (u.1 0) (u.1 1) (u.1 2) (rbF un r c9 ri T) ∧ (∀ i, i < 170 → u.1 3 i < 65536) ∧ (∀ i, i < 170 → u.1 4 i < 65536) ∧ (∀ i, i < 170 → u.1 5 i < 65536) ∧ (∀ i, i < 170 → u.1 6 i < 65536)) (fun u => [(h0, .inr (8, moL ma (va_up (va_up (va_up (va_up (va_up (va_up iv 14 (nI un)) 19 (u.2 0)) 20 (u.2 1)) 21 (u.2 2)) 22 (u.2 3)) 23 (u.2 4)) co)), ((ma 21), .inl (k 0, 319840, .inl (fun i => nI (u.1 0 i)))), ((ma 22), .inl (k 0, 3998, .inl (fun i => nI (u.1 1 i)))), ((ma 23), .inl (k 2, 3998, .inl (fun i => nI (u.1 2 i)))), ((ma 24), .inl (k 0, 170, .inl (fun i => nI (u.1 3 i)))), ((ma 25), .inl (k 0, 170, .inl (fun i => nI (u.1 4 i)))), ((ma 26), .inl (k 0, 170, .inl (fun i => nI (u.1 5 i)))), ((ma 27), .inl (k 0, 170, .inl (fun i => nI (u.1 6 i))))]) 0 0 := by
  refine met_start (by decide) (Nat.le_of_ble_eq_true rfl) ?_
  intro p e s m below meth c C K hA hsz S ls hl
  generalize va_A [(h0, .inr (8, moL ma (va_up iv 14 (nI un)) co)), ((ma 21), .inl (k 0, 319840, .inl (fun i => nI (dg i)))), ((ma 22), .inl (k 0, 3998, .inl (fun i => nI (sz i)))), ((ma 23), .inl (k 2, 3998, .inl (fun i => nI (bl i)))), ((ma 24), .inl (k 0, 170, .inl (fun i => nI (O i)))), ((ma 25), .inl (k 0, 170, .inl (fun i => nI (T2 i)))), ((ma 26), .inl (k 0, 170, .inl (fun i => nI (qt i)))), ((ma 27), .inl (k 0, 170, .inl (fun i => nI (Dv i))))] s0 = A at hA S ⊢
  have hx := C.1
  have hb := C.2.1
  have hl : lv_has ls 9 [(0, .ref h0), (1, .int (nI ri)), (2, .int (nI r)), (3, .int (nI c9)), (4, .int (nI tu))] := hl
  have ht1 : tu ≤ 1 := by rw [htu]; split <;> omega
  refine lv_iload_n hx hb d_Mo_rowBy_0 rfl (lv_at hl 2 rfl) ?_
  refine lv_iload_n hx hb d_Mo_rowBy_1 rfl (lv_at hl 3 rfl) ?_
  refine r_backi (wi := []) (wr := [(h0, .inr (8, moL ma (va_up iv 14 (nI un)) co)), ((ma 21), .inl (k 0, 319840, .inl (fun i => nI (dg i)))), ((ma 22), .inl (k 0, 3998, .inl (fun i => nI (sz i)))), ((ma 23), .inl (k 2, 3998, .inl (fun i => nI (bl i)))), ((ma 24), .inl (k 0, 170, .inl (fun i => nI (O i)))), ((ma 25), .inl (k 0, 170, .inl (fun i => nI (T2 i)))), ((ma 26), .inl (k 0, 170, .inl (fun i => nI (qt i)))), ((ma 27), .inl (k 0, 170, .inl (fun i => nI (Dv i))))]) S hA [] [0, 1, 2, 3, 4, 5, 6, 7] rfl rfl (by decide) (by decide) (va_runS (As := [.int (nI r), .int (nI c9)]) (rest := []) ⟨hx, hb, C.2.2.1, C.2.2.2.1, C.2.2.2.2.1⟩ (g_Mo_at l G k _ r c9) (k_stat (n := 2) C wc_Mo_at rfl rfl wz_Mo wm_Mo_328 wt_Mo_at (by decide +kernel) ⟨(Nat.le_of_ble_eq_true rfl), (Nat.le_of_ble_eq_true rfl)⟩) (pr_now K S [] (by decide) rfl) rfl rfl hl.1 rfl (lv_room (Nat.le_of_ble_eq_true rfl)) d_Mo_rowBy_2 ⟨(Nat.le_of_ble_eq_true rfl), (Nat.le_of_ble_eq_true rfl)⟩) (fun r3 u1 H locs hw2 S => ?_)
  have S : Sw G A s.heap _ _ [(h0, .inr (8, moL ma (va_up iv 14 (nI un)) co)), ((ma 21), .inl (k 0, 319840, .inl (fun i => nI (dg i)))), ((ma 22), .inl (k 0, 3998, .inl (fun i => nI (sz i)))), ((ma 23), .inl (k 2, 3998, .inl (fun i => nI (bl i)))), ((ma 24), .inl (k 0, 170, .inl (fun i => nI (O i)))), ((ma 25), .inl (k 0, 170, .inl (fun i => nI (T2 i)))), ((ma 26), .inl (k 0, 170, .inl (fun i => nI (qt i)))), ((ma 27), .inl (k 0, 170, .inl (fun i => nI (Dv i))))] := S
  obtain rfl : r3 = nI (42 * r + c9) := hw2
  refine lv_istore (lv' := [(5, .int (nI (42 * r + c9))), (0, .ref h0), (1, .int (nI ri)), (2, .int (nI r)), (3, .int (nI c9)), (4, .int (nI tu))]) hx hb d_Mo_rowBy_5 hl (by decide) rfl (fun ls hl => ?_)
  refine lv_iload_n hx hb d_Mo_rowBy_7 rfl (lv_at hl 2 rfl) ?_
  refine lv_iload_n hx hb d_Mo_rowBy_8 rfl (lv_at hl 4 rfl) ?_
  refine r_backi (wi := []) (wr := [(h0, .inr (8, moL ma (va_up iv 14 (nI un)) co)), ((ma 21), .inl (k 0, 319840, .inl (fun i => nI (dg i)))), ((ma 22), .inl (k 0, 3998, .inl (fun i => nI (sz i)))), ((ma 23), .inl (k 2, 3998, .inl (fun i => nI (bl i)))), ((ma 24), .inl (k 0, 170, .inl (fun i => nI (O i)))), ((ma 25), .inl (k 0, 170, .inl (fun i => nI (T2 i)))), ((ma 26), .inl (k 0, 170, .inl (fun i => nI (qt i)))), ((ma 27), .inl (k 0, 170, .inl (fun i => nI (Dv i))))]) S hA [] [0, 1, 2, 3, 4, 5, 6, 7] rfl rfl (by decide) (by decide) (va_runS (As := [.int (nI ri), .int (nI c9)]) (rest := []) ⟨hx, hb, C.2.2.1, C.2.2.2.1, C.2.2.2.2.1⟩ (g_Mo_at l G k _ ri c9) (k_stat (n := 2) C wc_Mo_at rfl rfl wz_Mo wm_Mo_328 wt_Mo_at (by decide +kernel) ⟨(Nat.le_of_ble_eq_true rfl), (Nat.le_of_ble_eq_true rfl)⟩) (pr_now K S [] (by decide) rfl) rfl rfl hl.1 rfl (lv_room (Nat.le_of_ble_eq_true rfl)) d_Mo_rowBy_9 ⟨(Nat.le_of_ble_eq_true rfl), (Nat.le_of_ble_eq_true rfl)⟩) (fun r7 u5 H locs hw6 S => ?_)
  have S : Sw G A s.heap _ _ [(h0, .inr (8, moL ma (va_up iv 14 (nI un)) co)), ((ma 21), .inl (k 0, 319840, .inl (fun i => nI (dg i)))), ((ma 22), .inl (k 0, 3998, .inl (fun i => nI (sz i)))), ((ma 23), .inl (k 2, 3998, .inl (fun i => nI (bl i)))), ((ma 24), .inl (k 0, 170, .inl (fun i => nI (O i)))), ((ma 25), .inl (k 0, 170, .inl (fun i => nI (T2 i)))), ((ma 26), .inl (k 0, 170, .inl (fun i => nI (qt i)))), ((ma 27), .inl (k 0, 170, .inl (fun i => nI (Dv i))))] := S
  obtain rfl : r7 = nI (42 * ri + c9) := hw6
  refine lv_istore (lv' := [(6, .int (nI (42 * ri + c9))), (5, .int (nI (42 * r + c9))), (0, .ref h0), (1, .int (nI ri)), (2, .int (nI r)), (3, .int (nI c9)), (4, .int (nI tu))]) hx hb d_Mo_rowBy_12 hl (by decide) rfl (fun ls hl => ?_)
  refine lv_iconst (v := 0) hx hb d_Mo_rowBy_14 (by decide) ?_
  refine lv_istore (lv' := [(7, .int 0), (6, .int (nI (42 * ri + c9))), (5, .int (nI (42 * r + c9))), (0, .ref h0), (1, .int (nI ri)), (2, .int (nI r)), (3, .int (nI c9)), (4, .int (nI tu))]) hx hb d_Mo_rowBy_15 hl (by decide) rfl (fun ls hl => ?_)
  have lp : ∀ d9, ∀ (j : Nat), ∀ (D : Nat → Nat), ∀ (Z : Nat → Nat), ∀ (B : Nat → Nat), ∀ (O9 : Nat → Nat), ∀ (T9 : Nat → Nat), ∀ (Q9 : Nat → Nat), ∀ (V9 : Nat → Nat), ∀ (w : Nat → Int32), (42 - j) < d9 → (j ≤ 42) → (tbO D Z B (rbT un r c9 ri j T)) → (∀ i, i < 170 → O9 i < 65536) → (∀ i, i < 170 → T9 i < 65536) → (∀ i, i < 170 → Q9 i < 65536) → (∀ i, i < 170 → V9 i < 65536) → ∀ (H : Heap) (locs : List Loc), Sw G A s.heap H locs [(h0, .inr (8, moL ma (va_up (va_up (va_up (va_up (va_up (va_up iv 14 (nI un)) 19 (w 0)) 20 (w 1)) 21 (w 2)) 22 (w 3)) 23 (w 4)) co)), ((ma 21), .inl (k 0, 319840, .inl (fun i => nI (D i)))), ((ma 22), .inl (k 0, 3998, .inl (fun i => nI (Z i)))), ((ma 23), .inl (k 2, 3998, .inl (fun i => nI (B i)))), ((ma 24), .inl (k 0, 170, .inl (fun i => nI (O9 i)))), ((ma 25), .inl (k 0, 170, .inl (fun i => nI (T9 i)))), ((ma 26), .inl (k 0, 170, .inl (fun i => nI (Q9 i)))), ((ma 27), .inl (k 0, 170, .inl (fun i => nI (V9 i))))] → ∀ ls : Array Slot, lv_has ls 9 [(7, .int (nI j)), (6, .int (nI (42 * ri + c9))), (5, .int (nI (42 * r + c9))), (0, .ref h0), (1, .int (nI ri)), (2, .int (nI r)), (3, .int (nI c9)), (4, .int (nI tu))] → W p l e { frames := 4, cells := 0, slots := 0, locals := 164 } s m [Value.ref h0, Value.int (nI ri), Value.int (nI r), Value.int (nI c9), Value.int (nI tu)].toArray below meth c H locs 0 0 (MQ below (va_Qv (fun (u : (Nat → Nat → Nat) × (Nat → Int32)) => tbO (u.1 0) (u.1 1) (u.1 2) (rbF un r c9 ri T) ∧ (∀ i, i < 170 → u.1 3 i < 65536) ∧ (∀ i, i < 170 → u.1 4 i < 65536) ∧ (∀ i, i < 170 → u.1 5 i < 65536) ∧ (∀ i, i < 170 → u.1 6 i < 65536)) (Po G k A (fun u => [(h0, .inr (8, moL ma (va_up (va_up (va_up (va_up (va_up (va_up iv 14 (nI un)) 19 (u.2 0)) 20 (u.2 1)) 21 (u.2 2)) 22 (u.2 3)) 23 (u.2 4)) co)), ((ma 21), .inl (k 0, 319840, .inl (fun i => nI (u.1 0 i)))), ((ma 22), .inl (k 0, 3998, .inl (fun i => nI (u.1 1 i)))), ((ma 23), .inl (k 2, 3998, .inl (fun i => nI (u.1 2 i)))), ((ma 24), .inl (k 0, 170, .inl (fun i => nI (u.1 3 i)))), ((ma 25), .inl (k 0, 170, .inl (fun i => nI (u.1 4 i)))), ((ma 26), .inl (k 0, 170, .inl (fun i => nI (u.1 5 i)))), ((ma 27), .inl (k 0, 170, .inl (fun i => nI (u.1 6 i))))])) A) [Value.ref h0, Value.int (nI ri), Value.int (nI r), Value.int (nI c9), Value.int (nI tu)].toArray s 0 0 A) (F0 m 17 ls []) := by
    intro d9
    induction d9 with
    | zero => intro j D Z B O9 T9 Q9 V9 w hm; exact absurd hm (Nat.not_lt_zero _)
    | succ d9 ih =>
      intro j D Z B O9 T9 Q9 V9 w hm hj hT2 e1 e2 e3 e4 H locs S ls hl
      refine lv_iload hx hb d_Mo_rowBy_17 (lv_at hl 0 rfl) ?_
      refine lv_bipush (v := 41) hx hb d_Mo_rowBy_19 (by decide) ?_
      refine z_icmp_gt (a := j) (b := 41) (tgt := 143) hx hb d_Mo_rowBy_21 (by decide) (by omega) (by omega) (fun hc9 => ?_) (fun hc9 => ?_)
      · obtain rfl : j = 42 := by omega
        refine lv_iload hx hb d_Mo_rowBy_143 (lv_at hl 7 rfl) ?_
        refine z_if_ne (a := tu) (tgt := 154) hx hb d_Mo_rowBy_145 (by decide) (by omega) (fun hc10 => ?_) (fun hc10 => ?_)
        · have hsx : sxS (T (42 * r + c9)) = 1 := by
            unfold sxS
            by_cases q9 : 0 < T (42 * r + c9)
            · rw [if_pos q9] at htu ⊢; try rfl
            · rw [if_neg q9] at htu ⊢; exact absurd htu (by omega)
          have hTF : tbO D Z B (rbF un r c9 ri T) := by
            unfold rbF
            rw [hsx, Int.one_mul, va_same _ (show T (42 * ri + c9) = rbT un r c9 ri 42 T (42 * ri + c9) from rbT_col.symm)]
            exact hT2
          exact r_vret C K (uz [D, Z, B, O9, T9, Q9, V9], w) ⟨hTF, e1, e2, e3, e4⟩ (S.sub [0, 1, 2, 3, 4, 5, 6, 7] (by decide) rfl) d_Mo_rowBy_154 (Nat.le_of_ble_eq_true rfl) (Nat.le_of_ble_eq_true rfl)
        · refine lv_aload_n hx hb d_Mo_rowBy_148 rfl (lv_at hl 3 rfl) ?_
          refine lv_iload hx hb d_Mo_rowBy_149 (lv_at hl 1 rfl) ?_
          refine r_backv (wi := [(h0, .inr (8, moL ma (va_up (va_up (va_up (va_up (va_up (va_up iv 14 (nI un)) 19 (w 0)) 20 (w 1)) 21 (w 2)) 22 (w 3)) 23 (w 4)) co)), ((ma 22), .inl (k 0, 3998, .inl (fun i => nI (Z i)))), ((ma 23), .inl (k 2, 3998, .inl (fun i => nI (B i))))]) (wr := [((ma 21), .inl (k 0, 319840, .inl (fun i => nI (D i)))), ((ma 24), .inl (k 0, 170, .inl (fun i => nI (O9 i)))), ((ma 25), .inl (k 0, 170, .inl (fun i => nI (T9 i)))), ((ma 26), .inl (k 0, 170, .inl (fun i => nI (Q9 i)))), ((ma 27), .inl (k 0, 170, .inl (fun i => nI (V9 i))))]) S hA [0, 2, 3] [1, 4, 5, 6, 7] rfl rfl (by decide) (by decide) (va_runV (As := [.int (nI (42 * ri + c9))]) (rest := []) ⟨hx, hb, C.2.2.1, C.2.2.2.1, C.2.2.2.2.1⟩ (g_Mo_turn l G k h0 _ ma (va_up (va_up (va_up (va_up (va_up (va_up iv 14 (nI un)) 19 (w 0)) 20 (w 1)) 21 (w 2)) 22 (w 3)) 23 (w 4)) co Z B (42 * ri + c9) (by omega) (hT2.2 _ (by omega)).1 (hT2.2 _ (by omega)).2.1) (k_virt (n := 1) C wc_Mo_turn rfl rfl wz_Mo wm_Mo_343 wn_Mo_turn ws_Mo_turn (by decide +kernel) ⟨(Nat.le_of_ble_eq_true rfl), (Nat.le_of_ble_eq_true rfl)⟩) (pr_nowV K S [0, 2, 3] (by decide) rfl 0 rfl rfl) rfl rfl hl.1 rfl (lv_room (Nat.le_of_ble_eq_true rfl)) d_Mo_rowBy_151 ⟨(Nat.le_of_ble_eq_true rfl), (Nat.le_of_ble_eq_true rfl)⟩) (fun bq H locs hw11 S => ?_)
          have S : Sw G A s.heap _ _ [((ma 21), .inl (k 0, 319840, .inl (fun i => nI (D i)))), ((ma 24), .inl (k 0, 170, .inl (fun i => nI (O9 i)))), ((ma 25), .inl (k 0, 170, .inl (fun i => nI (T9 i)))), ((ma 26), .inl (k 0, 170, .inl (fun i => nI (Q9 i)))), ((ma 27), .inl (k 0, 170, .inl (fun i => nI (V9 i)))), (h0, .inr (8, moL ma (va_up (va_up (va_up (va_up (va_up (va_up iv 14 (nI un)) 19 (w 0)) 20 (w 1)) 21 (w 2)) 22 (w 3)) 23 (w 4)) co)), ((ma 22), .inl (k 0, 3998, .inl (fun i => nI (Z i)))), ((ma 23), .inl (k 2, 3998, .inl (fun i => nI (bq i))))] := S
          obtain rfl : bq = va_up B (42 * ri + c9) (tnB (Z (42 * ri + c9)) (B (42 * ri + c9))) := hw11
          have S : Sw G A s.heap _ _ [((ma 21), .inl (k 0, 319840, .inl (fun i => nI (D i)))), ((ma 24), .inl (k 0, 170, .inl (fun i => nI (O9 i)))), ((ma 25), .inl (k 0, 170, .inl (fun i => nI (T9 i)))), ((ma 26), .inl (k 0, 170, .inl (fun i => nI (Q9 i)))), ((ma 27), .inl (k 0, 170, .inl (fun i => nI (V9 i)))), (h0, .inr (8, moL ma (va_up (va_up (va_up (va_up (va_up (va_up iv 14 (nI un)) 19 (w 0)) 20 (w 1)) 21 (w 2)) 22 (w 3)) 23 (w 4)) co)), ((ma 22), .inl (k 0, 3998, .inl (fun i => nI (Z i)))), ((ma 23), .inl (k 2, 3998, .inl (fun i => nI ((va_up B (42 * ri + c9) (tnB (Z (42 * ri + c9)) (B (42 * ri + c9)))) i))))] := S
          have hsx : sxS (T (42 * r + c9)) = -1 := by
            unfold sxS
            by_cases q9 : 0 < T (42 * r + c9)
            · rw [if_pos q9] at htu ⊢; exact absurd htu (by omega)
            · rw [if_neg q9] at htu ⊢; try rfl
          have hTF := tbO_turn (c := (42 * ri + c9)) hT2 (by omega)
          rw [rbT_col] at hTF
          rw [show - T (42 * ri + c9) = sxS (T (42 * r + c9)) * T (42 * ri + c9) by rw [hsx]; omega] at hTF
          exact r_vret C K (uz [D, Z, va_up B (42 * ri + c9) (tnB (Z (42 * ri + c9)) (B (42 * ri + c9))), O9, T9, Q9, V9], w) ⟨hTF, e1, e2, e3, e4⟩ (S.sub [5, 0, 6, 7, 1, 2, 3, 4] (by decide) rfl) d_Mo_rowBy_154 (Nat.le_of_ble_eq_true rfl) (Nat.le_of_ble_eq_true rfl)
      · refine lv_iload hx hb d_Mo_rowBy_24 (lv_at hl 0 rfl) ?_
        refine lv_iload_n hx hb d_Mo_rowBy_26 rfl (lv_at hl 6 rfl) ?_
        refine z_icmp_eq (a := j) (b := c9) (tgt := 137) hx hb d_Mo_rowBy_27 (by decide) (by omega) (by omega) (fun hc12 => ?_) (fun hc12 => ?_)
        · refine lv_iinc (v := nI (j + 1)) (lv' := [(7, .int (nI (j + 1))), (6, .int (nI (42 * ri + c9))), (5, .int (nI (42 * r + c9))), (0, .ref h0), (1, .int (nI ri)), (2, .int (nI r)), (3, .int (nI c9)), (4, .int (nI tu))]) hx hb d_Mo_rowBy_137 hl (k := 0) rfl (show nI j + Int32.ofInt 1 = nI (j + 1) from (nI_add j 1).trans (congrArg nI (by omega))) (by decide) rfl (fun ls hl => ?_)
          refine lv_goto (tgt := 17) hx hb d_Mo_rowBy_140 (by decide) ?_
          exact ih (j + 1) D Z B O9 T9 Q9 V9 w (by omega) (by omega) (by rw [rbT_no (by omega)]; exact hT2) e1 e2 e3 e4 _ _ (S.sub [0, 1, 2, 3, 4, 5, 6, 7] (by decide) rfl) ls (lv_sub hl [0, 1, 2, 3, 4, 5, 6, 7] rfl)
        · have hjs : j ≠ c9 := by omega
          have cal9 : (isC un j) → (j ≠ c9) → (j ≤ 41) → ∀ (H : Heap) (locs : List Loc), Sw G A s.heap H locs [(h0, .inr (8, moL ma (va_up (va_up (va_up (va_up (va_up (va_up iv 14 (nI un)) 19 (w 0)) 20 (w 1)) 21 (w 2)) 22 (w 3)) 23 (w 4)) co)), ((ma 21), .inl (k 0, 319840, .inl (fun i => nI (D i)))), ((ma 22), .inl (k 0, 3998, .inl (fun i => nI (Z i)))), ((ma 23), .inl (k 2, 3998, .inl (fun i => nI (B i)))), ((ma 24), .inl (k 0, 170, .inl (fun i => nI (O9 i)))), ((ma 25), .inl (k 0, 170, .inl (fun i => nI (T9 i)))), ((ma 26), .inl (k 0, 170, .inl (fun i => nI (Q9 i)))), ((ma 27), .inl (k 0, 170, .inl (fun i => nI (V9 i))))] → ∀ ls : Array Slot, lv_has ls 9 [(7, .int (nI j)), (6, .int (nI (42 * ri + c9))), (5, .int (nI (42 * r + c9))), (0, .ref h0), (1, .int (nI ri)), (2, .int (nI r)), (3, .int (nI c9)), (4, .int (nI tu))] → W p l e { frames := 4, cells := 0, slots := 0, locals := 164 } s m [Value.ref h0, Value.int (nI ri), Value.int (nI r), Value.int (nI c9), Value.int (nI tu)].toArray below meth c H locs 0 0 (MQ below (va_Qv (fun (u : (Nat → Nat → Nat) × (Nat → Int32)) => tbO (u.1 0) (u.1 1) (u.1 2) (rbF un r c9 ri T) ∧ (∀ i, i < 170 → u.1 3 i < 65536) ∧ (∀ i, i < 170 → u.1 4 i < 65536) ∧ (∀ i, i < 170 → u.1 5 i < 65536) ∧ (∀ i, i < 170 → u.1 6 i < 65536)) (Po G k A (fun u => [(h0, .inr (8, moL ma (va_up (va_up (va_up (va_up (va_up (va_up iv 14 (nI un)) 19 (u.2 0)) 20 (u.2 1)) 21 (u.2 2)) 22 (u.2 3)) 23 (u.2 4)) co)), ((ma 21), .inl (k 0, 319840, .inl (fun i => nI (u.1 0 i)))), ((ma 22), .inl (k 0, 3998, .inl (fun i => nI (u.1 1 i)))), ((ma 23), .inl (k 2, 3998, .inl (fun i => nI (u.1 2 i)))), ((ma 24), .inl (k 0, 170, .inl (fun i => nI (u.1 3 i)))), ((ma 25), .inl (k 0, 170, .inl (fun i => nI (u.1 4 i)))), ((ma 26), .inl (k 0, 170, .inl (fun i => nI (u.1 5 i)))), ((ma 27), .inl (k 0, 170, .inl (fun i => nI (u.1 6 i))))])) A) [Value.ref h0, Value.int (nI ri), Value.int (nI r), Value.int (nI c9), Value.int (nI tu)].toArray s 0 0 A) (F0 m 49 ls []) := by
            intro hC hjs hj2 H locs S ls hl
            have y1 := (hT2.2 (42 * ri + j) (by omega)).1
            have y2 := (hT2.2 (42 * ri + c9) (by omega)).1
            have y3 := (hT2.2 (42 * r + j) (by omega)).1
            refine lv_iload_n hx hb d_Mo_rowBy_49 rfl (lv_at hl 4 rfl) ?_
            refine lv_iload hx hb d_Mo_rowBy_50 (lv_at hl 0 rfl) ?_
            refine r_backi (wi := []) (wr := [(h0, .inr (8, moL ma (va_up (va_up (va_up (va_up (va_up (va_up iv 14 (nI un)) 19 (w 0)) 20 (w 1)) 21 (w 2)) 22 (w 3)) 23 (w 4)) co)), ((ma 21), .inl (k 0, 319840, .inl (fun i => nI (D i)))), ((ma 22), .inl (k 0, 3998, .inl (fun i => nI (Z i)))), ((ma 23), .inl (k 2, 3998, .inl (fun i => nI (B i)))), ((ma 24), .inl (k 0, 170, .inl (fun i => nI (O9 i)))), ((ma 25), .inl (k 0, 170, .inl (fun i => nI (T9 i)))), ((ma 26), .inl (k 0, 170, .inl (fun i => nI (Q9 i)))), ((ma 27), .inl (k 0, 170, .inl (fun i => nI (V9 i))))]) S hA [] [0, 1, 2, 3, 4, 5, 6, 7] rfl rfl (by decide) (by decide) (va_runS (As := [.int (nI ri), .int (nI j)]) (rest := []) ⟨hx, hb, C.2.2.1, C.2.2.2.1, C.2.2.2.2.1⟩ (g_Mo_at l G k _ ri j) (k_stat (n := 2) C wc_Mo_at rfl rfl wz_Mo wm_Mo_328 wt_Mo_at (by decide +kernel) ⟨(Nat.le_of_ble_eq_true rfl), (Nat.le_of_ble_eq_true rfl)⟩) (pr_now K S [] (by decide) rfl) rfl rfl hl.1 rfl (lv_room (Nat.le_of_ble_eq_true rfl)) d_Mo_rowBy_52 ⟨(Nat.le_of_ble_eq_true rfl), (Nat.le_of_ble_eq_true rfl)⟩) (fun r15 u13 H locs hw14 S => ?_)
            have S : Sw G A s.heap _ _ [(h0, .inr (8, moL ma (va_up (va_up (va_up (va_up (va_up (va_up iv 14 (nI un)) 19 (w 0)) 20 (w 1)) 21 (w 2)) 22 (w 3)) 23 (w 4)) co)), ((ma 21), .inl (k 0, 319840, .inl (fun i => nI (D i)))), ((ma 22), .inl (k 0, 3998, .inl (fun i => nI (Z i)))), ((ma 23), .inl (k 2, 3998, .inl (fun i => nI (B i)))), ((ma 24), .inl (k 0, 170, .inl (fun i => nI (O9 i)))), ((ma 25), .inl (k 0, 170, .inl (fun i => nI (T9 i)))), ((ma 26), .inl (k 0, 170, .inl (fun i => nI (Q9 i)))), ((ma 27), .inl (k 0, 170, .inl (fun i => nI (V9 i))))] := S
            obtain rfl : r15 = nI (42 * ri + j) := hw14
            refine lv_istore (lv' := [(8, .int (nI (42 * ri + j))), (7, .int (nI j)), (6, .int (nI (42 * ri + c9))), (5, .int (nI (42 * r + c9))), (0, .ref h0), (1, .int (nI ri)), (2, .int (nI r)), (3, .int (nI c9)), (4, .int (nI tu))]) hx hb d_Mo_rowBy_55 hl (by decide) rfl (fun ls hl => ?_)
            have rk : ∀ (H : Heap) (locs : List Loc), Sw G A s.heap H locs [(h0, .inr (8, moL ma (va_up (va_up (va_up (va_up (va_up (va_up iv 14 (nI un)) 19 (w 0)) 20 (w 1)) 21 (w 2)) 22 (w 3)) 23 (w 4)) co)), ((ma 21), .inl (k 0, 319840, .inl (fun i => nI (D i)))), ((ma 22), .inl (k 0, 3998, .inl (fun i => nI (Z i)))), ((ma 23), .inl (k 2, 3998, .inl (fun i => nI (B i)))), ((ma 24), .inl (k 0, 170, .inl (fun i => nI (O9 i)))), ((ma 25), .inl (k 0, 170, .inl (fun i => nI (T9 i)))), ((ma 26), .inl (k 0, 170, .inl (fun i => nI (Q9 i)))), ((ma 27), .inl (k 0, 170, .inl (fun i => nI (V9 i))))] → ∀ ls : Array Slot, lv_has ls 9 [(8, .int (nI (42 * ri + j))), (7, .int (nI j)), (6, .int (nI (42 * ri + c9))), (5, .int (nI (42 * r + c9))), (0, .ref h0), (1, .int (nI ri)), (2, .int (nI r)), (3, .int (nI c9)), (4, .int (nI tu))] → W p l e { frames := 4, cells := 0, slots := 0, locals := 164 } s m [Value.ref h0, Value.int (nI ri), Value.int (nI r), Value.int (nI c9), Value.int (nI tu)].toArray below meth c H locs 0 0 (MQ below (va_Qv (fun (u : (Nat → Nat → Nat) × (Nat → Int32)) => tbO (u.1 0) (u.1 1) (u.1 2) (rbF un r c9 ri T) ∧ (∀ i, i < 170 → u.1 3 i < 65536) ∧ (∀ i, i < 170 → u.1 4 i < 65536) ∧ (∀ i, i < 170 → u.1 5 i < 65536) ∧ (∀ i, i < 170 → u.1 6 i < 65536)) (Po G k A (fun u => [(h0, .inr (8, moL ma (va_up (va_up (va_up (va_up (va_up (va_up iv 14 (nI un)) 19 (u.2 0)) 20 (u.2 1)) 21 (u.2 2)) 22 (u.2 3)) 23 (u.2 4)) co)), ((ma 21), .inl (k 0, 319840, .inl (fun i => nI (u.1 0 i)))), ((ma 22), .inl (k 0, 3998, .inl (fun i => nI (u.1 1 i)))), ((ma 23), .inl (k 2, 3998, .inl (fun i => nI (u.1 2 i)))), ((ma 24), .inl (k 0, 170, .inl (fun i => nI (u.1 3 i)))), ((ma 25), .inl (k 0, 170, .inl (fun i => nI (u.1 4 i)))), ((ma 26), .inl (k 0, 170, .inl (fun i => nI (u.1 5 i)))), ((ma 27), .inl (k 0, 170, .inl (fun i => nI (u.1 6 i))))])) A) [Value.ref h0, Value.int (nI ri), Value.int (nI r), Value.int (nI c9), Value.int (nI tu)].toArray s 0 0 A) (F0 m 94 ls []) := by
              intro H locs S ls hl
              obtain ⟨z, hz1, hz2⟩ := hex j hC hjs
              have hT3 := tbO_turn (c := (42 * r + c9)) hT2 (by omega)
              refine lv_aload_n hx hb d_Mo_rowBy_94 rfl (lv_at hl 4 rfl) ?_
              refine lv_iload hx hb d_Mo_rowBy_95 (lv_at hl 3 rfl) ?_
              refine r_backv (wi := [(h0, .inr (8, moL ma (va_up (va_up (va_up (va_up (va_up (va_up iv 14 (nI un)) 19 (w 0)) 20 (w 1)) 21 (w 2)) 22 (w 3)) 23 (w 4)) co)), ((ma 22), .inl (k 0, 3998, .inl (fun i => nI (Z i)))), ((ma 23), .inl (k 2, 3998, .inl (fun i => nI (B i))))]) (wr := [((ma 21), .inl (k 0, 319840, .inl (fun i => nI (D i)))), ((ma 24), .inl (k 0, 170, .inl (fun i => nI (O9 i)))), ((ma 25), .inl (k 0, 170, .inl (fun i => nI (T9 i)))), ((ma 26), .inl (k 0, 170, .inl (fun i => nI (Q9 i)))), ((ma 27), .inl (k 0, 170, .inl (fun i => nI (V9 i))))]) S hA [0, 2, 3] [1, 4, 5, 6, 7] rfl rfl (by decide) (by decide) (va_runV (As := [.int (nI (42 * r + c9))]) (rest := []) ⟨hx, hb, C.2.2.1, C.2.2.2.1, C.2.2.2.2.1⟩ (g_Mo_turn l G k h0 _ ma (va_up (va_up (va_up (va_up (va_up (va_up iv 14 (nI un)) 19 (w 0)) 20 (w 1)) 21 (w 2)) 22 (w 3)) 23 (w 4)) co Z B (42 * r + c9) (by omega) (hT2.2 _ (by omega)).1 (hT2.2 _ (by omega)).2.1) (k_virt (n := 1) C wc_Mo_turn rfl rfl wz_Mo wm_Mo_343 wn_Mo_turn ws_Mo_turn (by decide +kernel) ⟨(Nat.le_of_ble_eq_true rfl), (Nat.le_of_ble_eq_true rfl)⟩) (pr_nowV K S [0, 2, 3] (by decide) rfl 0 rfl rfl) rfl rfl hl.1 rfl (lv_room (Nat.le_of_ble_eq_true rfl)) d_Mo_rowBy_97 ⟨(Nat.le_of_ble_eq_true rfl), (Nat.le_of_ble_eq_true rfl)⟩) (fun b1 H locs hw17 S => ?_)
              have S : Sw G A s.heap _ _ [((ma 21), .inl (k 0, 319840, .inl (fun i => nI (D i)))), ((ma 24), .inl (k 0, 170, .inl (fun i => nI (O9 i)))), ((ma 25), .inl (k 0, 170, .inl (fun i => nI (T9 i)))), ((ma 26), .inl (k 0, 170, .inl (fun i => nI (Q9 i)))), ((ma 27), .inl (k 0, 170, .inl (fun i => nI (V9 i)))), (h0, .inr (8, moL ma (va_up (va_up (va_up (va_up (va_up (va_up iv 14 (nI un)) 19 (w 0)) 20 (w 1)) 21 (w 2)) 22 (w 3)) 23 (w 4)) co)), ((ma 22), .inl (k 0, 3998, .inl (fun i => nI (Z i)))), ((ma 23), .inl (k 2, 3998, .inl (fun i => nI (b1 i))))] := S
              obtain rfl : b1 = va_up B (42 * r + c9) (tnB (Z (42 * r + c9)) (B (42 * r + c9))) := hw17
              have S : Sw G A s.heap _ _ [((ma 21), .inl (k 0, 319840, .inl (fun i => nI (D i)))), ((ma 24), .inl (k 0, 170, .inl (fun i => nI (O9 i)))), ((ma 25), .inl (k 0, 170, .inl (fun i => nI (T9 i)))), ((ma 26), .inl (k 0, 170, .inl (fun i => nI (Q9 i)))), ((ma 27), .inl (k 0, 170, .inl (fun i => nI (V9 i)))), (h0, .inr (8, moL ma (va_up (va_up (va_up (va_up (va_up (va_up iv 14 (nI un)) 19 (w 0)) 20 (w 1)) 21 (w 2)) 22 (w 3)) 23 (w 4)) co)), ((ma 22), .inl (k 0, 3998, .inl (fun i => nI (Z i)))), ((ma 23), .inl (k 2, 3998, .inl (fun i => nI ((va_up B (42 * r + c9) (tnB (Z (42 * r + c9)) (B (42 * r + c9)))) i))))] := S
              refine lv_aload_n hx hb d_Mo_rowBy_100 rfl (lv_at hl 4 rfl) ?_
              refine lv_iload hx hb d_Mo_rowBy_101 (lv_at hl 3 rfl) ?_
              refine lv_iload hx hb d_Mo_rowBy_103 (lv_at hl 0 rfl) ?_
              refine lv_iload hx hb d_Mo_rowBy_105 (lv_at hl 2 rfl) ?_
              refine lv_iload_n hx hb d_Mo_rowBy_107 rfl (lv_at hl 6 rfl) ?_
              refine lv_iload hx hb d_Mo_rowBy_108 (lv_at hl 1 rfl) ?_
              refine r_backi (wi := []) (wr := [((ma 21), .inl (k 0, 319840, .inl (fun i => nI (D i)))), ((ma 24), .inl (k 0, 170, .inl (fun i => nI (O9 i)))), ((ma 25), .inl (k 0, 170, .inl (fun i => nI (T9 i)))), ((ma 26), .inl (k 0, 170, .inl (fun i => nI (Q9 i)))), ((ma 27), .inl (k 0, 170, .inl (fun i => nI (V9 i)))), (h0, .inr (8, moL ma (va_up (va_up (va_up (va_up (va_up (va_up iv 14 (nI un)) 19 (w 0)) 20 (w 1)) 21 (w 2)) 22 (w 3)) 23 (w 4)) co)), ((ma 22), .inl (k 0, 3998, .inl (fun i => nI (Z i)))), ((ma 23), .inl (k 2, 3998, .inl (fun i => nI ((va_up B (42 * r + c9) (tnB (Z (42 * r + c9)) (B (42 * r + c9)))) i))))]) S hA [] [0, 1, 2, 3, 4, 5, 6, 7] rfl rfl (by decide) (by decide) (va_runS (As := [.int (nI r), .int (nI j)]) (rest := [.int (nI (42 * ri + c9)), .int (nI (42 * ri + j)), .int (nI (42 * r + c9)), .ref h0]) ⟨hx, hb, C.2.2.1, C.2.2.2.1, C.2.2.2.2.1⟩ (g_Mo_at l G k _ r j) (k_stat (n := 2) C wc_Mo_at rfl rfl wz_Mo wm_Mo_328 wt_Mo_at (by decide +kernel) ⟨(Nat.le_of_ble_eq_true rfl), (Nat.le_of_ble_eq_true rfl)⟩) (pr_now K S [] (by decide) rfl) rfl rfl hl.1 rfl (lv_room (Nat.le_of_ble_eq_true rfl)) d_Mo_rowBy_110 ⟨(Nat.le_of_ble_eq_true rfl), (Nat.le_of_ble_eq_true rfl)⟩) (fun r20 u18 H locs hw19 S => ?_)
              have S : Sw G A s.heap _ _ [((ma 21), .inl (k 0, 319840, .inl (fun i => nI (D i)))), ((ma 24), .inl (k 0, 170, .inl (fun i => nI (O9 i)))), ((ma 25), .inl (k 0, 170, .inl (fun i => nI (T9 i)))), ((ma 26), .inl (k 0, 170, .inl (fun i => nI (Q9 i)))), ((ma 27), .inl (k 0, 170, .inl (fun i => nI (V9 i)))), (h0, .inr (8, moL ma (va_up (va_up (va_up (va_up (va_up (va_up iv 14 (nI un)) 19 (w 0)) 20 (w 1)) 21 (w 2)) 22 (w 3)) 23 (w 4)) co)), ((ma 22), .inl (k 0, 3998, .inl (fun i => nI (Z i)))), ((ma 23), .inl (k 2, 3998, .inl (fun i => nI ((va_up B (42 * r + c9) (tnB (Z (42 * r + c9)) (B (42 * r + c9)))) i))))] := S
              obtain rfl : r20 = nI (42 * r + j) := hw19
              refine r_backv (wi := [(h0, .inr (8, moL ma (va_up (va_up (va_up (va_up (va_up (va_up iv 14 (nI un)) 19 (w 0)) 20 (w 1)) 21 (w 2)) 22 (w 3)) 23 (w 4)) co)), ((ma 21), .inl (k 0, 319840, .inl (fun i => nI (D i)))), ((ma 22), .inl (k 0, 3998, .inl (fun i => nI (Z i)))), ((ma 23), .inl (k 2, 3998, .inl (fun i => nI ((va_up B (42 * r + c9) (tnB (Z (42 * r + c9)) (B (42 * r + c9)))) i)))), ((ma 24), .inl (k 0, 170, .inl (fun i => nI (O9 i)))), ((ma 25), .inl (k 0, 170, .inl (fun i => nI (T9 i))))]) (wr := [((ma 26), .inl (k 0, 170, .inl (fun i => nI (Q9 i)))), ((ma 27), .inl (k 0, 170, .inl (fun i => nI (V9 i))))]) S hA [5, 0, 6, 7, 1, 2] [3, 4] rfl rfl (by decide) (by decide) (va_runV (As := [.int (nI (42 * r + c9)), .int (nI (42 * ri + j)), .int (nI (42 * ri + c9)), .int (nI (42 * r + j))]) (rest := []) ⟨hx, hb, C.2.2.1, C.2.2.2.1, C.2.2.2.2.1⟩ (g_Mo_products l G k h0 _ (42 * r + c9) (42 * ri + j) (42 * ri + c9) (42 * r + j) ma (va_up (va_up (va_up (va_up (va_up (va_up iv 14 (nI un)) 19 (w 0)) 20 (w 1)) 21 (w 2)) 22 (w 3)) 23 (w 4)) co D Z (va_up B (42 * r + c9) (tnB (Z (42 * r + c9)) (B (42 * r + c9)))) O9 T9 (by omega) (by omega) (by omega) (by omega) (hT3.2 _ (by omega)).1 (hT3.2 _ (by omega)).1 (hT3.2 _ (by omega)).1 (hT3.2 _ (by omega)).1 (hT3.2 _ (by omega)).2.1 (hT3.2 _ (by omega)).2.1 (hT3.2 _ (by omega)).2.1 (hT3.2 _ (by omega)).2.1 hT3.1 e1 e2) (k_virt (n := 4) C wc_Mo_products rfl rfl wz_Mo wm_Mo_351 wn_Mo_products ws_Mo_products (by decide +kernel) ⟨(Nat.le_of_ble_eq_true rfl), (Nat.le_of_ble_eq_true rfl)⟩) (pr_nowV K S [5, 0, 6, 7, 1, 2] (by decide) rfl 5 rfl rfl) rfl rfl hl.1 rfl (lv_room (Nat.le_of_ble_eq_true rfl)) d_Mo_rowBy_113 ⟨(Nat.le_of_ble_eq_true rfl), (Nat.le_of_ble_eq_true rfl)⟩) (fun pu H locs hw22 S => ?_)
              have S : Sw G A s.heap _ _ [((ma 26), .inl (k 0, 170, .inl (fun i => nI (Q9 i)))), ((ma 27), .inl (k 0, 170, .inl (fun i => nI (V9 i)))), (h0, .inr (8, moL ma (va_up (va_up (va_up (va_up (va_up (va_up iv 14 (nI un)) 23 (w 4)) 21 (nI pu.2.2.2.1)) 22 (nI pu.2.2.2.2.2)) 20 (nI pu.2.2.2.2.1)) 19 (nI pu.2.2.1)) co)), ((ma 21), .inl (k 0, 319840, .inl (fun i => nI (D i)))), ((ma 22), .inl (k 0, 3998, .inl (fun i => nI (Z i)))), ((ma 23), .inl (k 2, 3998, .inl (fun i => nI ((va_up B (42 * r + c9) (tnB (Z (42 * r + c9)) (B (42 * r + c9)))) i)))), ((ma 24), .inl (k 0, 170, .inl (fun i => nI (pu.1 i)))), ((ma 25), .inl (k 0, 170, .inl (fun i => nI (pu.2.1 i))))] := S
              obtain ⟨hX, hn1, htr, dA, dB, hob⟩ := hw22
              rw [(hT3.2 (42 * r + c9) (by omega)).2.2.2.2, (hT3.2 (42 * ri + j) (by omega)).2.2.2.2, (hT3.2 (42 * ri + c9) (by omega)).2.2.2.2, (hT3.2 (42 * r + j) (by omega)).2.2.2.2] at hX
              rw [va_up_self, va_up_ne _ _ (show (42 * ri + j) ≠ (42 * r + c9) by omega), va_up_ne _ _ (show (42 * ri + c9) ≠ (42 * r + c9) by omega), va_up_ne _ _ (show (42 * r + j) ≠ (42 * r + c9) by omega), rbT_out (c := (42 * r + c9)) (by omega), rbT_out (c := (42 * ri + j)) (by omega), rbT_col, rbT_out (c := (42 * r + j)) (by omega)] at hX
              rw [rb_X hz1] at hX
              have hv := rb_val (p := T (42 * r + c9)) hob hX h1 rfl htu
              have hT4 := tbO_turn (c := (42 * r + c9)) hT3 (by omega)
              rw [tt_back] at hT4
              have hV := hT4.2 3997 (by omega)
              have hV2 : rbT un r c9 ri j T 3997 = T 3997 := rbT_out (by omega)
              rw [hV2] at hV
              have hV3 := tbO_pos (T := T) hV h1
              refine lv_aload_n hx hb d_Mo_rowBy_116 rfl (lv_at hl 4 rfl) ?_
              refine lv_iload hx hb d_Mo_rowBy_117 (lv_at hl 3 rfl) ?_
              refine r_backv (wi := [(h0, .inr (8, moL ma (va_up (va_up (va_up (va_up (va_up (va_up iv 14 (nI un)) 23 (w 4)) 21 (nI pu.2.2.2.1)) 22 (nI pu.2.2.2.2.2)) 20 (nI pu.2.2.2.2.1)) 19 (nI pu.2.2.1)) co)), ((ma 22), .inl (k 0, 3998, .inl (fun i => nI (Z i)))), ((ma 23), .inl (k 2, 3998, .inl (fun i => nI ((va_up B (42 * r + c9) (tnB (Z (42 * r + c9)) (B (42 * r + c9)))) i))))]) (wr := [((ma 26), .inl (k 0, 170, .inl (fun i => nI (Q9 i)))), ((ma 27), .inl (k 0, 170, .inl (fun i => nI (V9 i)))), ((ma 21), .inl (k 0, 319840, .inl (fun i => nI (D i)))), ((ma 24), .inl (k 0, 170, .inl (fun i => nI (pu.1 i)))), ((ma 25), .inl (k 0, 170, .inl (fun i => nI (pu.2.1 i))))]) S hA [2, 4, 5] [0, 1, 3, 6, 7] rfl rfl (by decide) (by decide) (va_runV (As := [.int (nI (42 * r + c9))]) (rest := []) ⟨hx, hb, C.2.2.1, C.2.2.2.1, C.2.2.2.2.1⟩ (g_Mo_turn l G k h0 _ ma (va_up (va_up (va_up (va_up (va_up (va_up iv 14 (nI un)) 23 (w 4)) 21 (nI pu.2.2.2.1)) 22 (nI pu.2.2.2.2.2)) 20 (nI pu.2.2.2.2.1)) 19 (nI pu.2.2.1)) co Z (va_up B (42 * r + c9) (tnB (Z (42 * r + c9)) (B (42 * r + c9)))) (42 * r + c9) (by omega) (hT3.2 _ (by omega)).1 (hT3.2 _ (by omega)).2.1) (k_virt (n := 1) C wc_Mo_turn rfl rfl wz_Mo wm_Mo_343 wn_Mo_turn ws_Mo_turn (by decide +kernel) ⟨(Nat.le_of_ble_eq_true rfl), (Nat.le_of_ble_eq_true rfl)⟩) (pr_nowV K S [2, 4, 5] (by decide) rfl 2 rfl rfl) rfl rfl hl.1 rfl (lv_room (Nat.le_of_ble_eq_true rfl)) d_Mo_rowBy_119 ⟨(Nat.le_of_ble_eq_true rfl), (Nat.le_of_ble_eq_true rfl)⟩) (fun b2 H locs hw23 S => ?_)
              have S : Sw G A s.heap _ _ [((ma 26), .inl (k 0, 170, .inl (fun i => nI (Q9 i)))), ((ma 27), .inl (k 0, 170, .inl (fun i => nI (V9 i)))), ((ma 21), .inl (k 0, 319840, .inl (fun i => nI (D i)))), ((ma 24), .inl (k 0, 170, .inl (fun i => nI (pu.1 i)))), ((ma 25), .inl (k 0, 170, .inl (fun i => nI (pu.2.1 i)))), (h0, .inr (8, moL ma (va_up (va_up (va_up (va_up (va_up (va_up iv 14 (nI un)) 23 (w 4)) 21 (nI pu.2.2.2.1)) 22 (nI pu.2.2.2.2.2)) 20 (nI pu.2.2.2.2.1)) 19 (nI pu.2.2.1)) co)), ((ma 22), .inl (k 0, 3998, .inl (fun i => nI (Z i)))), ((ma 23), .inl (k 2, 3998, .inl (fun i => nI (b2 i))))] := S
              obtain rfl : b2 = va_up (va_up B (42 * r + c9) (tnB (Z (42 * r + c9)) (B (42 * r + c9)))) (42 * r + c9) (tnB (Z (42 * r + c9)) ((va_up B (42 * r + c9) (tnB (Z (42 * r + c9)) (B (42 * r + c9)))) (42 * r + c9))) := hw23
              have S : Sw G A s.heap _ _ [((ma 26), .inl (k 0, 170, .inl (fun i => nI (Q9 i)))), ((ma 27), .inl (k 0, 170, .inl (fun i => nI (V9 i)))), ((ma 21), .inl (k 0, 319840, .inl (fun i => nI (D i)))), ((ma 24), .inl (k 0, 170, .inl (fun i => nI (pu.1 i)))), ((ma 25), .inl (k 0, 170, .inl (fun i => nI (pu.2.1 i)))), (h0, .inr (8, moL ma (va_up (va_up (va_up (va_up (va_up (va_up iv 14 (nI un)) 23 (w 4)) 21 (nI pu.2.2.2.1)) 22 (nI pu.2.2.2.2.2)) 20 (nI pu.2.2.2.2.1)) 19 (nI pu.2.2.1)) co)), ((ma 22), .inl (k 0, 3998, .inl (fun i => nI (Z i)))), ((ma 23), .inl (k 2, 3998, .inl (fun i => nI ((va_up (va_up B (42 * r + c9) (tnB (Z (42 * r + c9)) (B (42 * r + c9)))) (42 * r + c9) (tnB (Z (42 * r + c9)) ((va_up B (42 * r + c9) (tnB (Z (42 * r + c9)) (B (42 * r + c9)))) (42 * r + c9)))) i))))] := S
              refine lv_aload_n hx hb d_Mo_rowBy_122 rfl (lv_at hl 4 rfl) ?_
              refine lv_sipush (v := 3997) hx hb d_Mo_rowBy_123 (by decide) ?_
              refine r_backv (wi := [(h0, .inr (8, moL ma (va_up (va_up (va_up (va_up (va_up (va_up iv 14 (nI un)) 23 (w 4)) 21 (nI pu.2.2.2.1)) 22 (nI pu.2.2.2.2.2)) 20 (nI pu.2.2.2.2.1)) 19 (nI pu.2.2.1)) co)), ((ma 21), .inl (k 0, 319840, .inl (fun i => nI (D i)))), ((ma 22), .inl (k 0, 3998, .inl (fun i => nI (Z i)))), ((ma 24), .inl (k 0, 170, .inl (fun i => nI (pu.1 i)))), ((ma 26), .inl (k 0, 170, .inl (fun i => nI (Q9 i)))), ((ma 27), .inl (k 0, 170, .inl (fun i => nI (V9 i))))]) (wr := [((ma 25), .inl (k 0, 170, .inl (fun i => nI (pu.2.1 i)))), ((ma 23), .inl (k 2, 3998, .inl (fun i => nI ((va_up (va_up B (42 * r + c9) (tnB (Z (42 * r + c9)) (B (42 * r + c9)))) (42 * r + c9) (tnB (Z (42 * r + c9)) ((va_up B (42 * r + c9) (tnB (Z (42 * r + c9)) (B (42 * r + c9)))) (42 * r + c9)))) i))))]) S hA [5, 2, 6, 3, 0, 1] [4, 7] rfl rfl (by decide) (by decide) (va_runV (As := [.int 3997]) (rest := []) ⟨hx, hb, C.2.2.1, C.2.2.2.1, C.2.2.2.2.1⟩ (g_Mo_divide l G k h0 _ 3997 pu.2.2.1 ma (va_up (va_up (va_up (va_up (va_up iv 14 (nI un)) 23 (w 4)) 21 (nI pu.2.2.2.1)) 22 (nI pu.2.2.2.2.2)) 20 (nI pu.2.2.2.2.1)) co D Z pu.1 Q9 V9 (by omega) hV.1 hV3.1 hV3.2 hn1 hT4.1 dA e3 e4) (k_virt (n := 1) C wc_Mo_divide rfl rfl wz_Mo wm_Mo_354 wn_Mo_divide ws_Mo_divide (by decide +kernel) ⟨(Nat.le_of_ble_eq_true rfl), (Nat.le_of_ble_eq_true rfl)⟩) (pr_nowV K S [5, 2, 6, 3, 0, 1] (by decide) rfl 5 rfl rfl) rfl rfl hl.1 rfl (lv_room (Nat.le_of_ble_eq_true rfl)) d_Mo_rowBy_126 ⟨(Nat.le_of_ble_eq_true rfl), (Nat.le_of_ble_eq_true rfl)⟩) (fun du H locs hw24 S => ?_)
              have S : Sw G A s.heap _ _ [((ma 25), .inl (k 0, 170, .inl (fun i => nI (pu.2.1 i)))), ((ma 23), .inl (k 2, 3998, .inl (fun i => nI ((va_up (va_up B (42 * r + c9) (tnB (Z (42 * r + c9)) (B (42 * r + c9)))) (42 * r + c9) (tnB (Z (42 * r + c9)) ((va_up B (42 * r + c9) (tnB (Z (42 * r + c9)) (B (42 * r + c9)))) (42 * r + c9)))) i)))), (h0, .inr (8, moL ma (va_up (va_up (va_up (va_up (va_up (va_up iv 14 (nI un)) 21 (nI pu.2.2.2.1)) 22 (nI pu.2.2.2.2.2)) 20 (nI pu.2.2.2.2.1)) 19 (nI pu.2.2.1)) 23 (nI du.2.2.2)) co)), ((ma 21), .inl (k 0, 319840, .inl (fun i => nI (D i)))), ((ma 22), .inl (k 0, 3998, .inl (fun i => nI (Z i)))), ((ma 24), .inl (k 0, 170, .inl (fun i => nI (du.1 i)))), ((ma 26), .inl (k 0, 170, .inl (fun i => nI (du.2.1 i)))), ((ma 27), .inl (k 0, 170, .inl (fun i => nI (du.2.2.1 i))))] := S
              obtain ⟨hD1, hD2, hD3, dA, dQ9, dV9⟩ := hw24
              rw [nmO_abs hV, hv.1] at hD1
              have hD4 : du.2.2.2 ≤ 80 := qn_le hD1 hz2 hD3
              refine lv_aload_n hx hb d_Mo_rowBy_129 rfl (lv_at hl 4 rfl) ?_
              refine lv_iload hx hb d_Mo_rowBy_130 (lv_at hl 0 rfl) ?_
              refine lv_iload hx hb d_Mo_rowBy_132 (lv_at hl 8 rfl) ?_
              refine r_backv (wi := [(h0, .inr (8, moL ma (va_up (va_up (va_up (va_up (va_up (va_up iv 14 (nI un)) 22 (nI pu.2.2.2.2.2)) 20 (nI pu.2.2.2.2.1)) 19 (nI pu.2.2.1)) 23 (nI du.2.2.2)) 21 (nI pu.2.2.2.1)) co)), ((ma 21), .inl (k 0, 319840, .inl (fun i => nI (D i)))), ((ma 22), .inl (k 0, 3998, .inl (fun i => nI (Z i)))), ((ma 23), .inl (k 2, 3998, .inl (fun i => nI ((va_up (va_up B (42 * r + c9) (tnB (Z (42 * r + c9)) (B (42 * r + c9)))) (42 * r + c9) (tnB (Z (42 * r + c9)) ((va_up B (42 * r + c9) (tnB (Z (42 * r + c9)) (B (42 * r + c9)))) (42 * r + c9)))) i)))), ((ma 26), .inl (k 0, 170, .inl (fun i => nI (du.2.1 i))))]) (wr := [((ma 25), .inl (k 0, 170, .inl (fun i => nI (pu.2.1 i)))), ((ma 24), .inl (k 0, 170, .inl (fun i => nI (du.1 i)))), ((ma 27), .inl (k 0, 170, .inl (fun i => nI (du.2.2.1 i))))]) S hA [2, 3, 4, 1, 6] [0, 5, 7] rfl rfl (by decide) (by decide) (va_runV (As := [.int (nI (42 * ri + j)), .int (nI tu)]) (rest := []) ⟨hx, hb, C.2.2.1, C.2.2.2.1, C.2.2.2.2.1⟩ (g_Mo_keepQuotient l G k h0 _ (42 * ri + j) tu du.2.2.2 pu.2.2.2.1 ma (va_up (va_up (va_up (va_up iv 14 (nI un)) 22 (nI pu.2.2.2.2.2)) 20 (nI pu.2.2.2.2.1)) 19 (nI pu.2.2.1)) co D Z (va_up (va_up B (42 * r + c9) (tnB (Z (42 * r + c9)) (B (42 * r + c9)))) (42 * r + c9) (tnB (Z (42 * r + c9)) ((va_up B (42 * r + c9) (tnB (Z (42 * r + c9)) (B (42 * r + c9)))) (42 * r + c9)))) du.2.1 (by omega) hD4 hob (by rw [htu]; split <;> omega)) (k_virt (n := 2) C wc_Mo_keepQuotient rfl rfl wz_Mo wm_Mo_357 wn_Mo_keepQuotient ws_Mo_keepQuotient (by decide +kernel) ⟨(Nat.le_of_ble_eq_true rfl), (Nat.le_of_ble_eq_true rfl)⟩) (pr_nowV K S [2, 3, 4, 1, 6] (by decide) rfl 2 rfl rfl) rfl rfl hl.1 rfl (lv_room (Nat.le_of_ble_eq_true rfl)) d_Mo_rowBy_134 ⟨(Nat.le_of_ble_eq_true rfl), (Nat.le_of_ble_eq_true rfl)⟩) (fun ku H locs hw25 S => ?_)
              have S : Sw G A s.heap _ _ [((ma 25), .inl (k 0, 170, .inl (fun i => nI (pu.2.1 i)))), ((ma 24), .inl (k 0, 170, .inl (fun i => nI (du.1 i)))), ((ma 27), .inl (k 0, 170, .inl (fun i => nI (du.2.2.1 i)))), (h0, .inr (8, moL ma (va_up (va_up (va_up (va_up (va_up (va_up iv 14 (nI un)) 22 (nI pu.2.2.2.2.2)) 20 (nI pu.2.2.2.2.1)) 19 (nI pu.2.2.1)) 23 (nI du.2.2.2)) 21 (nI pu.2.2.2.1)) co)), ((ma 21), .inl (k 0, 319840, .inl (fun i => nI (dgQ D du.2.1 ((42 * ri + j) * 80) du.2.2.2 i)))), ((ma 22), .inl (k 0, 3998, .inl (fun i => nI ((va_up Z (42 * ri + j) du.2.2.2) i)))), ((ma 23), .inl (k 2, 3998, .inl (fun i => nI (ku i)))), ((ma 26), .inl (k 0, 170, .inl (fun i => nI (du.2.1 i))))] := S
              obtain rfl : ku = va_up (va_up (va_up B (42 * r + c9) (tnB (Z (42 * r + c9)) (B (42 * r + c9)))) (42 * r + c9) (tnB (Z (42 * r + c9)) ((va_up B (42 * r + c9) (tnB (Z (42 * r + c9)) (B (42 * r + c9)))) (42 * r + c9)))) (42 * ri + j) (kqB du.2.2.2 pu.2.2.2.1 tu) := hw25
              have S : Sw G A s.heap _ _ [((ma 25), .inl (k 0, 170, .inl (fun i => nI (pu.2.1 i)))), ((ma 24), .inl (k 0, 170, .inl (fun i => nI (du.1 i)))), ((ma 27), .inl (k 0, 170, .inl (fun i => nI (du.2.2.1 i)))), (h0, .inr (8, moL ma (va_up (va_up (va_up (va_up (va_up (va_up iv 14 (nI un)) 22 (nI pu.2.2.2.2.2)) 20 (nI pu.2.2.2.2.1)) 19 (nI pu.2.2.1)) 23 (nI du.2.2.2)) 21 (nI pu.2.2.2.1)) co)), ((ma 21), .inl (k 0, 319840, .inl (fun i => nI (dgQ D du.2.1 ((42 * ri + j) * 80) du.2.2.2 i)))), ((ma 22), .inl (k 0, 3998, .inl (fun i => nI ((va_up Z (42 * ri + j) du.2.2.2) i)))), ((ma 23), .inl (k 2, 3998, .inl (fun i => nI ((va_up (va_up (va_up B (42 * r + c9) (tnB (Z (42 * r + c9)) (B (42 * r + c9)))) (42 * r + c9) (tnB (Z (42 * r + c9)) ((va_up B (42 * r + c9) (tnB (Z (42 * r + c9)) (B (42 * r + c9)))) (42 * r + c9)))) (42 * ri + j) (kqB du.2.2.2 pu.2.2.2.1 tu)) i)))), ((ma 26), .inl (k 0, 170, .inl (fun i => nI (du.2.1 i))))] := S
              have hT6 := tbO_keep (c := (42 * ri + j)) (n := du.2.2.2) (o := pu.2.2.2.1) (t := tu) (z := sxS (T (42 * r + c9)) * z) hT4 hD4 dQ9 hD3 (by rw [hD1]; exact hv.2)
              have hrv : sxS (T (42 * r + c9)) * z = rbV r c9 ri T j := by unfold rbV; rw [hz1, Int.mul_ediv_cancel_left _ (by omega)]
              rw [hrv, ← rbT_s hC hjs] at hT6
              refine lv_iinc (v := nI (j + 1)) (lv' := [(7, .int (nI (j + 1))), (8, .int (nI (42 * ri + j))), (6, .int (nI (42 * ri + c9))), (5, .int (nI (42 * r + c9))), (0, .ref h0), (1, .int (nI ri)), (2, .int (nI r)), (3, .int (nI c9)), (4, .int (nI tu))]) hx hb d_Mo_rowBy_137 hl (k := 1) rfl (show nI j + Int32.ofInt 1 = nI (j + 1) from (nI_add j 1).trans (congrArg nI (by omega))) (by decide) rfl (fun ls hl => ?_)
              refine lv_goto (tgt := 17) hx hb d_Mo_rowBy_140 (by decide) ?_
              exact ih (j + 1) (dgQ D du.2.1 ((42 * ri + j) * 80) du.2.2.2) (va_up Z (42 * ri + j) du.2.2.2) (va_up (va_up (va_up B (42 * r + c9) (tnB (Z (42 * r + c9)) (B (42 * r + c9)))) (42 * r + c9) (tnB (Z (42 * r + c9)) ((va_up B (42 * r + c9) (tnB (Z (42 * r + c9)) (B (42 * r + c9)))) (42 * r + c9)))) (42 * ri + j) (kqB du.2.2.2 pu.2.2.2.1 tu)) du.1 pu.2.1 du.2.1 du.2.2.1 (fz (nI pu.2.2.1) (nI pu.2.2.2.2.1) (nI pu.2.2.2.1) (nI pu.2.2.2.2.2) (nI du.2.2.2)) (by omega) (by omega) hT6 dA dB dQ9 dV9 _ _ (S.sub [3, 4, 5, 6, 1, 0, 7, 2] (by decide) rfl) ls (lv_sub hl [0, 2, 3, 4, 5, 6, 7, 8] rfl)
            refine lv_aload_n hx hb d_Mo_rowBy_57 rfl (lv_at hl 4 rfl) ?_
            refine r_get C K S 0 rfl rfl clOk_Mo 42 (by decide) wf_Mo_86 (v := .ref (ma 22)) rfl d_Mo_rowBy_58 ?_
            refine lv_iload hx hb d_Mo_rowBy_61 (lv_at hl 0 rfl) ?_
            refine r_iald C K S 2 rfl (i := nI (42 * ri + j)) (show vp_in (nI (42 * ri + j)) _ from vp_in_nI (n := (42 * ri + j)) (by omega) (by decide)) (v := nI (Z (42 * ri + j))) (by rw [nI_clamp (by omega)]) d_Mo_rowBy_63 ?_
            refine z_if_ne (a := (Z (42 * ri + j))) (tgt := 94) hx hb d_Mo_rowBy_64 (by decide) (by omega) (fun hc26 => ?_) (fun hc26 => ?_)
            · exact rk _ _ (S.sub [0, 1, 2, 3, 4, 5, 6, 7] (by decide) rfl) ls (lv_sub hl [0, 1, 2, 3, 4, 5, 6, 7, 8] rfl)
            · refine lv_aload_n hx hb d_Mo_rowBy_67 rfl (lv_at hl 4 rfl) ?_
              refine r_get C K S 0 rfl rfl clOk_Mo 42 (by decide) wf_Mo_86 (v := .ref (ma 22)) rfl d_Mo_rowBy_68 ?_
              refine lv_iload hx hb d_Mo_rowBy_71 (lv_at hl 2 rfl) ?_
              refine r_iald C K S 2 rfl (i := nI (42 * ri + c9)) (show vp_in (nI (42 * ri + c9)) _ from vp_in_nI (n := (42 * ri + c9)) (by omega) (by decide)) (v := nI (Z (42 * ri + c9))) (by rw [nI_clamp (by omega)]) d_Mo_rowBy_73 ?_
              refine z_if_eq (a := (Z (42 * ri + c9))) (tgt := 137) hx hb d_Mo_rowBy_74 (by decide) (by omega) (fun hc27 => ?_) (fun hc27 => ?_)
              · refine lv_iinc (v := nI (j + 1)) (lv' := [(7, .int (nI (j + 1))), (8, .int (nI (42 * ri + j))), (6, .int (nI (42 * ri + c9))), (5, .int (nI (42 * r + c9))), (0, .ref h0), (1, .int (nI ri)), (2, .int (nI r)), (3, .int (nI c9)), (4, .int (nI tu))]) hx hb d_Mo_rowBy_137 hl (k := 1) rfl (show nI j + Int32.ofInt 1 = nI (j + 1) from (nI_add j 1).trans (congrArg nI (by omega))) (by decide) rfl (fun ls hl => ?_)
                refine lv_goto (tgt := 17) hx hb d_Mo_rowBy_140 (by decide) ?_
                exact ih (j + 1) D Z B O9 T9 Q9 V9 w (by omega) (by omega) (by rw [rbT_zero hC hjs (by rw [← rbT_out (un := un) (r := r) (s := c9) (i := ri) (k := j) (T := T) (c := (42 * ri + j)) (by omega)]; exact (nmO_zero (hT2.2 (42 * ri + j) (by omega))).mp hc26) (Or.inl (by rw [← rbT_col (un := un) (r := r) (s := c9) (i := ri) (k := j) (T := T)]; exact (nmO_zero (hT2.2 (42 * ri + c9) (by omega))).mp hc27))]; exact hT2) e1 e2 e3 e4 _ _ (S.sub [0, 1, 2, 3, 4, 5, 6, 7] (by decide) rfl) ls (lv_sub hl [0, 2, 3, 4, 5, 6, 7, 8] rfl)
              · refine lv_aload_n hx hb d_Mo_rowBy_77 rfl (lv_at hl 4 rfl) ?_
                refine r_get C K S 0 rfl rfl clOk_Mo 42 (by decide) wf_Mo_86 (v := .ref (ma 22)) rfl d_Mo_rowBy_78 ?_
                refine lv_iload_n hx hb d_Mo_rowBy_81 rfl (lv_at hl 6 rfl) ?_
                refine lv_iload hx hb d_Mo_rowBy_82 (lv_at hl 1 rfl) ?_
                refine r_backi (wi := []) (wr := [(h0, .inr (8, moL ma (va_up (va_up (va_up (va_up (va_up (va_up iv 14 (nI un)) 19 (w 0)) 20 (w 1)) 21 (w 2)) 22 (w 3)) 23 (w 4)) co)), ((ma 21), .inl (k 0, 319840, .inl (fun i => nI (D i)))), ((ma 22), .inl (k 0, 3998, .inl (fun i => nI (Z i)))), ((ma 23), .inl (k 2, 3998, .inl (fun i => nI (B i)))), ((ma 24), .inl (k 0, 170, .inl (fun i => nI (O9 i)))), ((ma 25), .inl (k 0, 170, .inl (fun i => nI (T9 i)))), ((ma 26), .inl (k 0, 170, .inl (fun i => nI (Q9 i)))), ((ma 27), .inl (k 0, 170, .inl (fun i => nI (V9 i))))]) S hA [] [0, 1, 2, 3, 4, 5, 6, 7] rfl rfl (by decide) (by decide) (va_runS (As := [.int (nI r), .int (nI j)]) (rest := [.ref (ma 22)]) ⟨hx, hb, C.2.2.1, C.2.2.2.1, C.2.2.2.2.1⟩ (g_Mo_at l G k _ r j) (k_stat (n := 2) C wc_Mo_at rfl rfl wz_Mo wm_Mo_328 wt_Mo_at (by decide +kernel) ⟨(Nat.le_of_ble_eq_true rfl), (Nat.le_of_ble_eq_true rfl)⟩) (pr_now K S [] (by decide) rfl) rfl rfl hl.1 rfl (lv_room (Nat.le_of_ble_eq_true rfl)) d_Mo_rowBy_84 ⟨(Nat.le_of_ble_eq_true rfl), (Nat.le_of_ble_eq_true rfl)⟩) (fun r30 u28 H locs hw29 S => ?_)
                have S : Sw G A s.heap _ _ [(h0, .inr (8, moL ma (va_up (va_up (va_up (va_up (va_up (va_up iv 14 (nI un)) 19 (w 0)) 20 (w 1)) 21 (w 2)) 22 (w 3)) 23 (w 4)) co)), ((ma 21), .inl (k 0, 319840, .inl (fun i => nI (D i)))), ((ma 22), .inl (k 0, 3998, .inl (fun i => nI (Z i)))), ((ma 23), .inl (k 2, 3998, .inl (fun i => nI (B i)))), ((ma 24), .inl (k 0, 170, .inl (fun i => nI (O9 i)))), ((ma 25), .inl (k 0, 170, .inl (fun i => nI (T9 i)))), ((ma 26), .inl (k 0, 170, .inl (fun i => nI (Q9 i)))), ((ma 27), .inl (k 0, 170, .inl (fun i => nI (V9 i))))] := S
                obtain rfl : r30 = nI (42 * r + j) := hw29
                refine r_iald C K S 2 rfl (i := nI (42 * r + j)) (show vp_in (nI (42 * r + j)) _ from vp_in_nI (n := (42 * r + j)) (by omega) (by decide)) (v := nI (Z (42 * r + j))) (by rw [nI_clamp (by omega)]) d_Mo_rowBy_87 ?_
                refine z_if_ne (a := (Z (42 * r + j))) (tgt := 94) hx hb d_Mo_rowBy_88 (by decide) (by omega) (fun hc32 => ?_) (fun hc32 => ?_)
                · exact rk _ _ (S.sub [0, 1, 2, 3, 4, 5, 6, 7] (by decide) rfl) ls (lv_sub hl [0, 1, 2, 3, 4, 5, 6, 7, 8] rfl)
                · refine lv_goto (tgt := 137) hx hb d_Mo_rowBy_91 (by decide) ?_
                  refine lv_iinc (v := nI (j + 1)) (lv' := [(7, .int (nI (j + 1))), (8, .int (nI (42 * ri + j))), (6, .int (nI (42 * ri + c9))), (5, .int (nI (42 * r + c9))), (0, .ref h0), (1, .int (nI ri)), (2, .int (nI r)), (3, .int (nI c9)), (4, .int (nI tu))]) hx hb d_Mo_rowBy_137 hl (k := 1) rfl (show nI j + Int32.ofInt 1 = nI (j + 1) from (nI_add j 1).trans (congrArg nI (by omega))) (by decide) rfl (fun ls hl => ?_)
                  refine lv_goto (tgt := 17) hx hb d_Mo_rowBy_140 (by decide) ?_
                  exact ih (j + 1) D Z B O9 T9 Q9 V9 w (by omega) (by omega) (by rw [rbT_zero hC hjs (by rw [← rbT_out (un := un) (r := r) (s := c9) (i := ri) (k := j) (T := T) (c := (42 * ri + j)) (by omega)]; exact (nmO_zero (hT2.2 (42 * ri + j) (by omega))).mp hc26) (Or.inr (by rw [← rbT_out (un := un) (r := r) (s := c9) (i := ri) (k := j) (T := T) (c := (42 * r + j)) (by omega)]; exact (nmO_zero (hT2.2 (42 * r + j) (by omega))).mp hc32))]; exact hT2) e1 e2 e3 e4 _ _ (S.sub [0, 1, 2, 3, 4, 5, 6, 7] (by decide) rfl) ls (lv_sub hl [0, 2, 3, 4, 5, 6, 7, 8] rfl)
          refine lv_iload hx hb d_Mo_rowBy_30 (lv_at hl 0 rfl) ?_
          refine lv_aload_n hx hb d_Mo_rowBy_32 rfl (lv_at hl 3 rfl) ?_
          refine r_get C K S 0 rfl rfl clOk_Mo 29 (by decide) wf_Mo_192 (v := .int (nI un)) rfl d_Mo_rowBy_33 ?_
          refine z_icmp_le (a := j) (b := un) (tgt := 49) hx hb d_Mo_rowBy_36 (by decide) (by omega) (by omega) (fun hc33 => ?_) (fun hc33 => ?_)
          · exact cal9 (by unfold isC; omega) (by omega) (by omega) _ _ (S.sub [0, 1, 2, 3, 4, 5, 6, 7] (by decide) rfl) ls (lv_sub hl [0, 1, 2, 3, 4, 5, 6, 7] rfl)
          · refine lv_iload hx hb d_Mo_rowBy_39 (lv_at hl 0 rfl) ?_
            refine lv_bipush (v := 41) hx hb d_Mo_rowBy_41 (by decide) ?_
            refine z_icmp_ge (a := j) (b := 41) (tgt := 49) hx hb d_Mo_rowBy_43 (by decide) (by omega) (by omega) (fun hc34 => ?_) (fun hc34 => ?_)
            · exact cal9 (by unfold isC; omega) (by omega) (by omega) _ _ (S.sub [0, 1, 2, 3, 4, 5, 6, 7] (by decide) rfl) ls (lv_sub hl [0, 1, 2, 3, 4, 5, 6, 7] rfl)
            · refine lv_goto (tgt := 137) hx hb d_Mo_rowBy_46 (by decide) ?_
              refine lv_iinc (v := nI (j + 1)) (lv' := [(7, .int (nI (j + 1))), (6, .int (nI (42 * ri + c9))), (5, .int (nI (42 * r + c9))), (0, .ref h0), (1, .int (nI ri)), (2, .int (nI r)), (3, .int (nI c9)), (4, .int (nI tu))]) hx hb d_Mo_rowBy_137 hl (k := 0) rfl (show nI j + Int32.ofInt 1 = nI (j + 1) from (nI_add j 1).trans (congrArg nI (by omega))) (by decide) rfl (fun ls hl => ?_)
              refine lv_goto (tgt := 17) hx hb d_Mo_rowBy_140 (by decide) ?_
              exact ih (j + 1) D Z B O9 T9 Q9 V9 w (by omega) (by omega) (by rw [rbT_no (by unfold isC; omega)]; exact hT2) e1 e2 e3 e4 _ _ (S.sub [0, 1, 2, 3, 4, 5, 6, 7] (by decide) rfl) ls (lv_sub hl [0, 1, 2, 3, 4, 5, 6, 7] rfl)
  exact lp _ 0 dg sz bl O T2 qt Dv (fun j => iv (19 + j)) (Nat.lt_succ_self _) (by omega) (by rw [rbT_0]; exact hT) dO d2 dQ dD _ _ (S.sub [0, 1, 2, 3, 4, 5, 6, 7] (by decide) rfl) ls (lv_sub hl [0, 1, 2, 3, 4, 5, 6, 7] rfl)
end
