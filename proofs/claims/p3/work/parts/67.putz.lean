/-! a contract with a weaker post; put for any long but the lowest -/
theorem CV_imp {S S' : Type} {l : Launch} {y : MethodName} {cc : ByteArray} {n : Nat} {rm : Room} {as : List Value} {G : va_G} {k : Nat → ClassId} {sz : Nat} {wi : va_W} {post : S → Prop} {wo : S → va_W} {post' : S' → Prop} {wo' : S' → va_W} {mc ms : Nat} (h : CV l y cc n rm as G k sz wi post wo mc ms) (hq : ∀ u, post u → ∃ u', post' u' ∧ wo' u' = wo u) : CV l y cc n rm as G k sz wi post' wo' mc ms := by
  refine Jvm.Free.MetFree.mono h (fun _ _ x => x) (fun _ _ _ _ _ x => x) (fun a s o t _ hh => ?_)
  obtain ⟨⟨⟨u, h1, h2, h3⟩, h4⟩, h5⟩ := hh
  obtain ⟨u', g1, g2⟩ := hq u h2
  refine ⟨⟨⟨u', h1, g1, ?_⟩, h4⟩, h5⟩
  unfold Po at h3 ⊢
  rw [g2]
  exact h3
theorem lN_of {x : Int64} (h : 0 ≤ x.toInt) : x = lN x.toInt.toNat := by
  apply Int64.toInt_inj.mp
  have h1 := x.toInt_lt
  show x.toInt = (Int64.ofNat x.toInt.toNat).toInt
  rw [Int64.toInt_ofNat_of_lt (by omega)]
  omega
theorem lN_neg_of {x : Int64} (h : x.toInt < 0) (h2 : -9223372036854775808 < x.toInt) : x = - lN (- x.toInt).toNat := by
  apply Int64.toInt_inj.mp
  have e : (lN (- x.toInt).toNat).toInt = - x.toInt := by
    show (Int64.ofNat (- x.toInt).toNat).toInt = _
    rw [Int64.toInt_ofNat_of_lt (by omega)]
    omega
  rw [Int64.toInt_neg, e, Int.neg_neg]
  exact (Int.bmod_eq_of_le (by omega) (by have := x.toInt_lt; omega)).symm
theorem g_Mo_putZ (l : Launch) (G : va_G) (k : Nat → ClassId) (h0 s0 c0 : Nat) (x : Int64) (ma : Nat → Nat) (iv : Nat → Int32) (co : Int64) (dg sz bl : Nat → Nat) (T : Nat → Int) (hT : tbO dg sz bl T) (kc : c0 < 3998) (hx : -9223372036854775808 < x.toInt) : CV l y_Mo_put c_Mo_put 7 { frames := 0, cells := 0, slots := 0, locals := 0 } [.ref h0, .int (nI c0), .long x] G k s0 [(h0, .inr (8, moL ma iv co)), ((ma 21), .inl (k 0, 319840, .inl (fun i => nI (dg i)))), ((ma 22), .inl (k 0, 3998, .inl (fun i => nI (sz i)))), ((ma 23), .inl (k 2, 3998, .inl (fun i => nI (bl i))))] (fun (u : (Nat → Nat) × (Nat → Nat) × (Nat → Nat)) => tbO u.1 u.2.1 u.2.2 (va_up T c0 x.toInt)) (fun u => [(h0, .inr (8, moL ma iv co)), ((ma 21), .inl (k 0, 319840, .inl (fun i => nI (u.1 i)))), ((ma 22), .inl (k 0, 3998, .inl (fun i => nI (u.2.1 i)))), ((ma 23), .inl (k 2, 3998, .inl (fun i => nI (u.2.2 i))))]) 0 0 := by
  by_cases q : 0 ≤ x.toInt
  · have e := lN_of q
    have h := g_Mo_put_p l G k h0 s0 c0 x.toInt.toNat ma iv co dg sz bl kc (by have := x.toInt_lt; omega) hT.1
    rw [← e] at h
    refine CV_imp h (fun u hu => ⟨(u.1, va_up sz c0 u.2, va_up bl c0 0), ?_, rfl⟩)
    have := tbO_put_p hT hu
    rw [show ((x.toInt.toNat : Nat) : Int) = x.toInt by omega] at this
    exact this
  · have e := lN_neg_of (x := x) (by omega) hx
    have h := g_Mo_put_n l G k h0 s0 c0 (- x.toInt).toNat ma iv co dg sz bl kc (by omega) (by omega) hT.1
    rw [← e] at h
    refine CV_imp h (fun u hu => ⟨(u.1, va_up sz c0 u.2, va_up bl c0 1), ?_, rfl⟩)
    have := tbO_put_n hT (by omega) hu
    rw [show - (((- x.toInt).toNat : Nat) : Int) = x.toInt by omega] at this
    exact this
