/-! worlds in another order; cells out of a pool and back -/
section POOL
variable {G : va_G} {A : Nat → Prop} {H0 H : Heap} {locs : List Loc}
theorem vaD_iff {ws : va_W} : va_D A ws ↔ (ws.map (·.1)).Nodup ∧ ∀ q ∈ ws, A q.1 := by
  constructor
  · rintro ⟨h1, h2⟩
    refine ⟨List.pairwise_iff_getElem.mpr (fun i j hi hj hij e => ?_), fun q hq => ?_⟩
    · rw [List.getElem_map, List.getElem_map] at e
      rw [List.length_map] at hi hj
      have := h1 i j _ _ (List.getElem?_eq_getElem hi) (List.getElem?_eq_getElem hj) e
      omega
    · obtain ⟨k, hk⟩ := List.getElem?_of_mem hq
      exact h2 k q hk
  · rintro ⟨h1, h2⟩
    refine ⟨fun i j p q hi hj e => ?_, fun k q hk => h2 q (List.mem_of_getElem? hk)⟩
    obtain ⟨hi1, hi2⟩ := List.getElem?_eq_some_iff.mp hi
    obtain ⟨hj1, hj2⟩ := List.getElem?_eq_some_iff.mp hj
    have hp := List.pairwise_iff_getElem.mp h1
    rcases Nat.lt_trichotomy i j with w | w | w
    · exact absurd (by rw [List.getElem_map, List.getElem_map, hi2, hj2]; exact e) (hp i j (by rw [List.length_map]; exact hi1) (by rw [List.length_map]; exact hj1) w)
    · exact w
    · exact absurd (by rw [List.getElem_map, List.getElem_map, hi2, hj2]; exact e.symm) (hp j i (by rw [List.length_map]; exact hj1) (by rw [List.length_map]; exact hi1) w)
theorem Sw.perm {ws ws' : va_W} (S : Sw G A H0 H locs ws) (h : ws.Perm ws') : Sw G A H0 H locs ws' := by
  refine ⟨fun k q hk => ?_, ?_, S.2.2⟩
  · have hq : q ∈ ws := h.mem_iff.mpr (List.mem_of_getElem? hk)
    obtain ⟨i, hi⟩ := List.getElem?_of_mem hq
    exact S.1 i q hi
  · have h1 := vaD_iff.mp S.2.1
    exact vaD_iff.mpr ⟨(h.map _).nodup_iff.mp h1.1, fun q hq => h1.2 q (h.mem_iff.mpr hq)⟩
theorem Sw.pl_nd {X : va_W} {L : List Nat} {f : Nat → va_E} (S : Sw G A H0 H locs (X ++ va_pl L f)) : L.Nodup := by
  have h := (vaD_iff.mp S.2.1).1
  rw [List.map_append, List.nodup_append] at h
  have h2 := h.2.1
  unfold va_pl at h2
  rw [List.map_map] at h2
  have e : L.map ((fun q : Nat × va_E => q.1) ∘ fun a => (a, f a)) = L := by
    rw [show ((fun q : Nat × va_E => q.1) ∘ fun a => (a, f a)) = id from rfl, List.map_id]
  rw [e] at h2
  exact h2
/-- a cell out of the pool -/
theorem Sw.out {X : va_W} {L : List Nat} {f : Nat → va_E} {a : Nat} (S : Sw G A H0 H locs (X ++ va_pl L f)) (h : a ∈ L) : Sw G A H0 H locs ((X ++ [(a, f a)]) ++ va_pl (L.erase a) f) := by
  refine S.perm ?_
  rw [List.append_assoc]
  refine List.Perm.append_left X ?_
  exact ((List.perm_cons_erase h).map (fun a => (a, f a)))
/-- and back -/
theorem Sw.into {X : va_W} {L : List Nat} {f : Nat → va_E} {a : Nat} {e : va_E} (S : Sw G A H0 H locs ((X ++ [(a, e)]) ++ va_pl (L.erase a) f)) (h : a ∈ L) (hn : L.Nodup) : Sw G A H0 H locs (X ++ va_pl L (va_up f a e)) := by
  refine S.perm ?_
  rw [List.append_assoc]
  refine List.Perm.append_left X ?_
  have h1 : (va_pl L (va_up f a e)).Perm (va_pl (a :: L.erase a) (va_up f a e)) := (List.perm_cons_erase h).map _
  refine List.Perm.trans ?_ h1.symm
  unfold va_pl
  rw [List.map_cons, va_up_self]
  have e2 : (L.erase a).map (fun b => (b, va_up f a e b)) = (L.erase a).map (fun b => (b, f b)) := by
    refine List.map_congr_left (fun b hb => ?_)
    have hne : b ≠ a := fun q => by
      subst q
      exact absurd hb (List.Nodup.not_mem_erase hn)
    rw [va_up_ne _ _ hne]
  rw [e2]
  exact List.Perm.refl _
/-- new cells go into the pool -/
theorem Sw.push {X : va_W} {L : List Nat} {f : Nat → va_E} {a : Nat} {e : va_E} (S : Sw G A H0 H locs ((X ++ [(a, e)]) ++ va_pl L f)) : a ∉ L ∧ Sw G A H0 H locs (X ++ va_pl (a :: L) (va_up f a e)) := by
  have hn := (vaD_iff.mp S.2.1).1
  have ha : a ∉ L := by
    intro q
    rw [List.map_append, List.nodup_append] at hn
    refine hn.2.2 a (by rw [List.map_append]; exact List.mem_append_right _ (by simp)) a ?_ rfl
    unfold va_pl
    rw [List.map_map]
    exact List.mem_map.mpr ⟨a, q, rfl⟩
  refine ⟨ha, S.perm ?_⟩
  rw [List.append_assoc]
  refine List.Perm.append_left X ?_
  unfold va_pl
  rw [List.map_cons, va_up_self]
  have e2 : L.map (fun b => (b, va_up f a e b)) = L.map (fun b => (b, f b)) := List.map_congr_left (fun b hb => by
    have hne : b ≠ a := fun q => ha (by rw [← q]; exact hb)
    rw [va_up_ne _ _ hne])
  rw [e2]
  exact List.Perm.refl _
theorem Sw.pl_congr {X : va_W} {L : List Nat} {f g : Nat → va_E} (S : Sw G A H0 H locs (X ++ va_pl L f)) (h : ∀ a ∈ L, f a = g a) : Sw G A H0 H locs (X ++ va_pl L g) := by
  have e : va_pl L f = va_pl L g := List.map_congr_left (fun b hb => by rw [h b hb])
  rw [← e]; exact S
end POOL
theorem ap_in {X pl wi : va_W} {is : List Nat} (h : is.map (fun i => X[i]?) = wi.map some) : is.map (fun i => (X ++ pl)[i]?) = wi.map some := by
  rw [← h]
  apply List.map_congr_left
  intro i hi
  have h1 : X[i]? ∈ is.map (fun i => X[i]?) := List.mem_map.mpr ⟨i, hi, rfl⟩
  rw [h] at h1
  obtain ⟨q, -, hq⟩ := List.mem_map.mp h1
  exact List.getElem?_append_left (List.getElem?_eq_some_iff.mp hq.symm).1
theorem arrV_eq {cA : ClassId} {n : Nat} {f f' : Nat → Value} (h : ∀ i, i < n → f i = f' i) : arrV cA n f = arrV cA n f' := by
  unfold arrV
  have e : (fun j : Fin n => f j.val) = fun j : Fin n => f' j.val := funext (fun j => h j.val j.isLt)
  rw [e]
/-- an array's content matters below its length alone -/
theorem Sw.arr {G : va_G} {A : Nat → Prop} {H0 H : Heap} {locs : List Loc} {ws ws' : va_W} (S : Sw G A H0 H locs ws) (j : Nat) {a : Nat} {cA : ClassId} {n : Nat} {f f' : Nat → Int32} (hj : ws[j]? = some (a, .inl (cA, n, .inl f))) (h : ∀ i, i < n → f i = f' i) (hw : ws.set j (a, .inl (cA, n, .inl f')) = ws') : Sw G A H0 H locs ws' := by
  subst hw
  have hjl : j < ws.length := (List.getElem?_eq_some_iff.mp hj).1
  refine ⟨fun k q hk => ?_, ?_, S.2.2⟩
  · by_cases w : j = k
    · subst w
      rw [List.getElem?_set_self hjl] at hk
      obtain rfl := Option.some.inj hk
      have h1 : H[a]? = some (vp_cell cA (n, .inl f)) := S.1 j _ hj
      show H[a]? = some (vp_cell cA (n, .inl f'))
      rw [h1, vp_cell_i, vp_cell_i, arrV_eq (f' := fun i => Value.int (f' i)) (fun i hi => by rw [h i hi])]
    · rw [List.getElem?_set_ne w] at hk
      exact S.1 k q hk
  · have h1 := vaD_iff.mp S.2.1
    have e : (ws.set j (a, (.inl (cA, n, .inl f') : va_E))).map (·.1) = ws.map (·.1) := by
      rw [List.map_set]
      apply List.ext_getElem?
      intro i
      by_cases w : j = i
      · subst w
        rw [List.getElem?_set_self (by rw [List.length_map]; exact hjl), List.getElem?_map, hj]; rfl
      · rw [List.getElem?_set_ne w]
    refine vaD_iff.mpr ⟨by rw [e]; exact h1.1, fun q hq => ?_⟩
    have h2 : q.1 ∈ (ws.set j (a, (.inl (cA, n, .inl f') : va_E))).map (·.1) := List.mem_map.mpr ⟨q, hq, rfl⟩
    rw [e] at h2
    obtain ⟨q2, hq2, hq3⟩ := List.mem_map.mp h2
    rw [← hq3]; exact h1.2 q2 hq2
