/-- what waits, in the arrays; c calls are open, nothing of it lies at t or above -/
def stM (WK WF WA WB WN : Nat → Nat) (vr : Nat → Int32) : List Fr → Nat → Nat → Prop
  | [], _, _ => True
  | (kd, f, a, env, kn) :: st, c, t => WK st.length = kd ∧ WF st.length = f ∧ WA st.length = a ∧ WN st.length = kn ∧ WB st.length + kn ≤ t ∧ (∀ i, i < kn → vr (WB st.length + i) = nI (env i)) ∧ WB st.length ≤ 19 * ((if kd = 2 then c - 1 else c) - 1) ∧ stM WK WF WA WB WN vr st (if kd = 2 then c - 1 else c) (WB st.length + kn)
theorem stM_keep {WK WF WA WB WN WK2 WF2 WA2 WB2 WN2 : Nat → Nat} {vr vr2 : Nat → Int32} : ∀ {st : List Fr} {c t t2 : Nat}, (∀ i, i < st.length → WK2 i = WK i ∧ WF2 i = WF i ∧ WA2 i = WA i ∧ WB2 i = WB i ∧ WN2 i = WN i) → (∀ i, i < t → vr2 i = vr i) → t ≤ t2 → stM WK WF WA WB WN vr st c t → stM WK2 WF2 WA2 WB2 WN2 vr2 st c t2
  | [], _, _, _, _, _, _, _ => trivial
  | (kd, f, a, env, kn) :: st, c, t, t2, h1, h2, h3, h => by
    obtain ⟨a1, a2, a3, a4, a5, a6, a7, a8⟩ := h
    obtain ⟨b1, b2, b3, b4, b5⟩ := h1 st.length (by simp)
    refine ⟨b1.trans a1, b2.trans a2, b3.trans a3, b5.trans a4, by rw [b4]; omega, fun i hi => by rw [b4, h2 _ (by omega)]; exact a6 i hi, by rw [b4]; exact a7, ?_⟩
    rw [b4]
    exact stM_keep (fun i hi => h1 i (by simp only [List.length_cons]; omega)) (fun i hi => h2 i (by omega)) (Nat.le_refl _) a8
theorem stM_pop {WK WF WA WB WN : Nat → Nat} {vr : Nat → Int32} {kd f a kn c t : Nat} {env : Nat → Nat} {st : List Fr} (h : stM WK WF WA WB WN vr ((kd, f, a, env, kn) :: st) c t) : WK st.length = kd ∧ WF st.length = f ∧ WA st.length = a ∧ WN st.length = kn ∧ WB st.length + kn ≤ t ∧ (∀ i, i < kn → vr (WB st.length + i) = nI (env i)) ∧ WB st.length ≤ 19 * ((if kd = 2 then c - 1 else c) - 1) ∧ stM WK WF WA WB WN vr st (if kd = 2 then c - 1 else c) (WB st.length + kn) := h
theorem stM_push {WK WF WA WB WN : Nat → Nat} {vr vr2 : Nat → Int32} {kd f a kn c c2 bs t2 : Nat} {env : Nat → Nat} {st : List Fr} (h : stM WK WF WA WB WN vr st c2 (bs + kn)) (hc : (if kd = 2 then c - 1 else c) = c2) (hb : bs ≤ 19 * (c2 - 1)) (he : ∀ i, i < kn → vr (bs + i) = nI (env i)) (hv : ∀ i, i < bs + kn → vr2 i = vr i) (ht : bs + kn ≤ t2) : stM (va_up WK st.length kd) (va_up WF st.length f) (va_up WA st.length a) (va_up WB st.length bs) (va_up WN st.length kn) vr2 ((kd, f, a, env, kn) :: st) c t2 := by
  refine ⟨va_up_self _ _ _, va_up_self _ _ _, va_up_self _ _ _, va_up_self _ _ _, by rw [va_up_self]; exact ht, fun i hi => by rw [va_up_self, hv _ (by omega)]; exact he i hi, by rw [va_up_self, hc]; exact hb, ?_⟩
  rw [va_up_self, hc]
  exact stM_keep (fun i hi => ⟨va_up_ne _ _ (by omega), va_up_ne _ _ (by omega), va_up_ne _ _ (by omega), va_up_ne _ _ (by omega), va_up_ne _ _ (by omega)⟩) hv (Nat.le_refl _) h
def rsI (wd : Nat → Int32) (tk : Nat → Nat) (nf : Nat) (En : Nat → Nat) (f p : Nat) (env : Nat → Nat) (kn : Nat) (st : List Fr) (cl : Nat) : Option Nat → Prop
  | none => evO wd tk nf En f p env kn st cl
  | some x => geO wd tk nf En x st cl
theorem rs_len {wd : Nat → Int32} {tk : Nat → Nat} {nf : Nat} {En : Nat → Nat} {f p kn cl : Nat} {env : Nat → Nat} {st : List Fr} {v : Option Nat} (h : rsI wd tk nf En f p env kn st cl v) (hc : cl ≤ 60) : 1 ≤ cl ∧ st.length ≤ 1100 := by
  cases v with
  | none => obtain ⟨fu, d, h1, h2, h3, h4, h5, h6⟩ := h; have := stkO_len h3 (by omega); omega
  | some x => obtain ⟨d, h3, h4, h5⟩ := h; have := stkO_len h3 h4; omega
theorem en_up {vr : Nat → Int32} {bs kn v : Nat} {env : Nat → Nat} (h : ∀ i, i < kn → vr (bs + i) = nI (env i)) : ∀ i, i < kn + 1 → va_up vr (bs + kn) (nI v) (bs + i) = nI (va_up env kn v i) := by
  intro i hi
  by_cases q : i = kn
  · rw [q, va_up_self, va_up_self]
  · rw [va_up_ne _ _ q, va_up_ne _ _ (by omega)]; exact h i (by omega)
theorem env_up {kn v : Nat} {env : Nat → Nat} (h : ∀ i, i < kn → env i ≤ 30000) (hv : v ≤ 30000) : ∀ i, i < kn + 1 → va_up env kn v i ≤ 30000 := by
  intro i hi
  by_cases q : i = kn
  · rw [q, va_up_self]; exact hv
  · rw [va_up_ne _ _ q]; exact h i (by omega)
section WFK
variable {W : Nat → Int32} {tk : Nat → Nat} {nf : Nat} {E : Nat → Nat} {fu kn p q : Nat}
theorem wf_1 (h : wf W tk nf E fu kn p q) (hk : W p = 1) : p + 2 = q := by
  cases fu with
  | zero => exact h.elim
  | succ fu =>
    obtain ⟨-, h⟩ := h
    rcases h with h | h | h | h | h | h | h
    · rw [hk] at h; exact absurd h.1 (by decide)
    · exact h.2.2.symm
    · rw [hk] at h; exact absurd h.1 (by decide)
    · rw [hk] at h; exact absurd h.1 (by decide)
    · rw [hk] at h; exact absurd h.1 (by decide)
    · rw [hk] at h; exact absurd h.1 (by decide)
    · rw [hk] at h; exact absurd h.1 (by decide)
theorem wf_2 (h : wf W tk nf E fu kn p q) (hk : W p = 2) : ∃ fu2, fu = fu2 + 1 ∧ wf W tk nf E fu2 kn (p + 1) q := by
  cases fu with
  | zero => exact h.elim
  | succ fu =>
    obtain ⟨-, h⟩ := h
    rcases h with h | h | h | h | h | h | h
    · rw [hk] at h; exact absurd h.1 (by decide)
    · rw [hk] at h; exact absurd h.1 (by decide)
    · exact ⟨fu, rfl, h.2⟩
    · rw [hk] at h; exact absurd h.1 (by decide)
    · rw [hk] at h; exact absurd h.1 (by decide)
    · rw [hk] at h; exact absurd h.1 (by decide)
    · rw [hk] at h; exact absurd h.1 (by decide)
theorem wf_3 (h : wf W tk nf E fu kn p q) (hk : W p = 3) : ∃ fu2 m, fu = fu2 + 1 ∧ wf W tk nf E fu2 kn (p + 2) m ∧ wf W tk nf E fu2 (kn + 1) m q := by
  cases fu with
  | zero => exact h.elim
  | succ fu =>
    obtain ⟨-, h⟩ := h
    rcases h with h | h | h | h | h | h | h
    · rw [hk] at h; exact absurd h.1 (by decide)
    · rw [hk] at h; exact absurd h.1 (by decide)
    · rw [hk] at h; exact absurd h.1 (by decide)
    · obtain ⟨-, -, m, a, b⟩ := h; exact ⟨fu, m, rfl, a, b⟩
    · rw [hk] at h; exact absurd h.1 (by decide)
    · rw [hk] at h; exact absurd h.1 (by decide)
    · rw [hk] at h; exact absurd h.1 (by decide)
theorem wf_4 (h : wf W tk nf E fu kn p q) (hk : W p = 4) : ∃ fu2, fu = fu2 + 1 ∧ wf W tk nf E fu2 kn (p + 2) q := by
  cases fu with
  | zero => exact h.elim
  | succ fu =>
    obtain ⟨-, h⟩ := h
    rcases h with h | h | h | h | h | h | h
    · rw [hk] at h; exact absurd h.1 (by decide)
    · rw [hk] at h; exact absurd h.1 (by decide)
    · rw [hk] at h; exact absurd h.1 (by decide)
    · rw [hk] at h; exact absurd h.1 (by decide)
    · exact ⟨fu, rfl, h.2.2⟩
    · rw [hk] at h; exact absurd h.1 (by decide)
    · rw [hk] at h; exact absurd h.1 (by decide)
theorem wf_5 (hnf : nf ≤ 4) (h : wf W tk nf E fu kn p q) (hk : W p = 5) {g : Nat} (hg1 : W (p + 1) = nI g) (hg2 : g < nf) : q = p + 2 + tk g := by
  cases fu with
  | zero => exact h.elim
  | succ fu =>
    obtain ⟨-, h⟩ := h
    rcases h with h | h | h | h | h | h | h
    · rw [hk] at h; exact absurd h.1 (by decide)
    · rw [hk] at h; exact absurd h.1 (by decide)
    · rw [hk] at h; exact absurd h.1 (by decide)
    · rw [hk] at h; exact absurd h.1 (by decide)
    · rw [hk] at h; exact absurd h.1 (by decide)
    · obtain ⟨-, g2, a, b, c9, -⟩ := h; have e : g2 = g := by { have := nI_clamp (n := g2) (by omega); rw [← a, hg1, nI_clamp (by omega)] at this; omega }; rw [← e]; exact c9
    · rw [hk] at h; exact absurd h.1 (by decide)
theorem wf_6 (h : wf W tk nf E fu kn p q) (hk : W p = 6) : ∃ fu2 m, fu = fu2 + 1 ∧ wf W tk nf E fu2 kn (p + 1) m ∧ wf W tk nf E fu2 (kn + 1) m q := by
  cases fu with
  | zero => exact h.elim
  | succ fu =>
    obtain ⟨-, h⟩ := h
    rcases h with h | h | h | h | h | h | h
    · rw [hk] at h; exact absurd h.1 (by decide)
    · rw [hk] at h; exact absurd h.1 (by decide)
    · rw [hk] at h; exact absurd h.1 (by decide)
    · rw [hk] at h; exact absurd h.1 (by decide)
    · rw [hk] at h; exact absurd h.1 (by decide)
    · rw [hk] at h; exact absurd h.1 (by decide)
    · obtain ⟨-, m, a, b⟩ := h; exact ⟨fu, m, rfl, a, b⟩
end WFK
theorem nn_3 {x : Int32} (h : ¬ x < 0) (h2 : x ≤ 3000) : x.toNatClampNeg ≤ 3000 := by
  rw [Int32.lt_iff_toInt_lt, show (0 : Int32).toInt = 0 by decide] at h
  rw [Int32.le_iff_toInt_le, show (3000 : Int32).toInt = 3000 by decide] at h2
  have h4 : x.toNatClampNeg = x.toInt.toNat := rfl
  omega
theorem d_Mo_run_0 : decode c_Mo_run 0 = .ok (.aload_n 0, 1) := by decide +kernel
theorem d_Mo_run_1 : decode c_Mo_run 1 = .ok (.iload_n 1, 1) := by decide +kernel
theorem d_Mo_run_2 : decode c_Mo_run 2 = .ok (.invokevirtual 114, 3) := by decide +kernel
theorem d_Mo_run_5 : decode c_Mo_run 5 = .ok (.ifCond .eq 10, 3) := by decide +kernel
theorem d_Mo_run_8 : decode c_Mo_run 8 = .ok (.aload_n 0, 1) := by decide +kernel
theorem d_Mo_run_9 : decode c_Mo_run 9 = .ok (.invokevirtual 182, 3) := by decide +kernel
theorem d_Mo_run_12 : decode c_Mo_run 12 = .ok (.ifCond .ne 5, 3) := by decide +kernel
theorem d_Mo_run_15 : decode c_Mo_run 15 = .ok (.iconst (-1), 1) := by decide +kernel
theorem d_Mo_run_16 : decode c_Mo_run 16 = .ok (.ireturn, 1) := by decide +kernel
theorem d_Mo_run_17 : decode c_Mo_run 17 = .ok (.iconst 0, 1) := by decide +kernel
theorem d_Mo_run_18 : decode c_Mo_run 18 = .ok (.istore 5, 2) := by decide +kernel
theorem d_Mo_run_20 : decode c_Mo_run 20 = .ok (.iload 5, 2) := by decide +kernel
theorem d_Mo_run_22 : decode c_Mo_run 22 = .ok (.aload_n 0, 1) := by decide +kernel
theorem d_Mo_run_23 : decode c_Mo_run 23 = .ok (.getfield 9, 3) := by decide +kernel
theorem d_Mo_run_26 : decode c_Mo_run 26 = .ok (.iload_n 1, 1) := by decide +kernel
theorem d_Mo_run_27 : decode c_Mo_run 27 = .ok (.iaload, 1) := by decide +kernel
theorem d_Mo_run_28 : decode c_Mo_run 28 = .ok (.if_icmp .ge 47, 3) := by decide +kernel
theorem d_Mo_run_31 : decode c_Mo_run 31 = .ok (.iload 5, 2) := by decide +kernel
theorem d_Mo_run_33 : decode c_Mo_run 33 = .ok (.ifCond .ne 7, 3) := by decide +kernel
theorem d_Mo_run_36 : decode c_Mo_run 36 = .ok (.iload_n 2, 1) := by decide +kernel
theorem d_Mo_run_37 : decode c_Mo_run 37 = .ok (.goto 15, 3) := by decide +kernel
theorem d_Mo_run_40 : decode c_Mo_run 40 = .ok (.iload 5, 2) := by decide +kernel
theorem d_Mo_run_42 : decode c_Mo_run 42 = .ok (.iconst 1, 1) := by decide +kernel
theorem d_Mo_run_43 : decode c_Mo_run 43 = .ok (.if_icmp .ne 7, 3) := by decide +kernel
theorem d_Mo_run_46 : decode c_Mo_run 46 = .ok (.iload_n 3, 1) := by decide +kernel
theorem d_Mo_run_47 : decode c_Mo_run 47 = .ok (.goto 5, 3) := by decide +kernel
theorem d_Mo_run_50 : decode c_Mo_run 50 = .ok (.iload 4, 2) := by decide +kernel
theorem d_Mo_run_52 : decode c_Mo_run 52 = .ok (.istore 6, 2) := by decide +kernel
theorem d_Mo_run_54 : decode c_Mo_run 54 = .ok (.iload 6, 2) := by decide +kernel
theorem d_Mo_run_56 : decode c_Mo_run 56 = .ok (.ifCond .lt 11, 3) := by decide +kernel
theorem d_Mo_run_59 : decode c_Mo_run 59 = .ok (.iload 6, 2) := by decide +kernel
theorem d_Mo_run_61 : decode c_Mo_run 61 = .ok (.sipush 3000, 3) := by decide +kernel
theorem d_Mo_run_64 : decode c_Mo_run 64 = .ok (.if_icmp .le 5, 3) := by decide +kernel
theorem d_Mo_run_67 : decode c_Mo_run 67 = .ok (.iconst (-1), 1) := by decide +kernel
theorem d_Mo_run_68 : decode c_Mo_run 68 = .ok (.ireturn, 1) := by decide +kernel
theorem d_Mo_run_69 : decode c_Mo_run 69 = .ok (.iinc 5 1, 3) := by decide +kernel
theorem d_Mo_run_72 : decode c_Mo_run 72 = .ok (.goto (-52), 3) := by decide +kernel
theorem d_Mo_run_75 : decode c_Mo_run 75 = .ok (.aload_n 0, 1) := by decide +kernel
theorem d_Mo_run_76 : decode c_Mo_run 76 = .ok (.getfield 53, 3) := by decide +kernel
theorem d_Mo_run_79 : decode c_Mo_run 79 = .ok (.iconst 0, 1) := by decide +kernel
theorem d_Mo_run_80 : decode c_Mo_run 80 = .ok (.iload_n 2, 1) := by decide +kernel
theorem d_Mo_run_81 : decode c_Mo_run 81 = .ok (.iastore, 1) := by decide +kernel
theorem d_Mo_run_82 : decode c_Mo_run 82 = .ok (.aload_n 0, 1) := by decide +kernel
theorem d_Mo_run_83 : decode c_Mo_run 83 = .ok (.getfield 53, 3) := by decide +kernel
theorem d_Mo_run_86 : decode c_Mo_run 86 = .ok (.iconst 1, 1) := by decide +kernel
theorem d_Mo_run_87 : decode c_Mo_run 87 = .ok (.iload_n 3, 1) := by decide +kernel
theorem d_Mo_run_88 : decode c_Mo_run 88 = .ok (.iastore, 1) := by decide +kernel
theorem d_Mo_run_89 : decode c_Mo_run 89 = .ok (.aload_n 0, 1) := by decide +kernel
theorem d_Mo_run_90 : decode c_Mo_run 90 = .ok (.getfield 53, 3) := by decide +kernel
theorem d_Mo_run_93 : decode c_Mo_run 93 = .ok (.iconst 2, 1) := by decide +kernel
theorem d_Mo_run_94 : decode c_Mo_run 94 = .ok (.iload 4, 2) := by decide +kernel
theorem d_Mo_run_96 : decode c_Mo_run 96 = .ok (.iastore, 1) := by decide +kernel
theorem d_Mo_run_97 : decode c_Mo_run 97 = .ok (.aload_n 0, 1) := by decide +kernel
theorem d_Mo_run_98 : decode c_Mo_run 98 = .ok (.lconst 0, 1) := by decide +kernel
theorem d_Mo_run_99 : decode c_Mo_run 99 = .ok (.putfield 175, 3) := by decide +kernel
theorem d_Mo_run_102 : decode c_Mo_run 102 = .ok (.aload_n 0, 1) := by decide +kernel
theorem d_Mo_run_103 : decode c_Mo_run 103 = .ok (.iconst 0, 1) := by decide +kernel
theorem d_Mo_run_104 : decode c_Mo_run 104 = .ok (.putfield 165, 3) := by decide +kernel
theorem d_Mo_run_107 : decode c_Mo_run 107 = .ok (.aload_n 0, 1) := by decide +kernel
theorem d_Mo_run_108 : decode c_Mo_run 108 = .ok (.bipush (-2), 2) := by decide +kernel
theorem d_Mo_run_110 : decode c_Mo_run 110 = .ok (.putfield 35, 3) := by decide +kernel
theorem d_Mo_run_113 : decode c_Mo_run 113 = .ok (.aload_n 0, 1) := by decide +kernel
theorem d_Mo_run_114 : decode c_Mo_run 114 = .ok (.iconst 0, 1) := by decide +kernel
theorem d_Mo_run_115 : decode c_Mo_run 115 = .ok (.putfield 155, 3) := by decide +kernel
theorem d_Mo_run_118 : decode c_Mo_run 118 = .ok (.aload_n 0, 1) := by decide +kernel
theorem d_Mo_run_119 : decode c_Mo_run 119 = .ok (.iconst 0, 1) := by decide +kernel
theorem d_Mo_run_120 : decode c_Mo_run 120 = .ok (.putfield 143, 3) := by decide +kernel
theorem d_Mo_run_123 : decode c_Mo_run 123 = .ok (.aload_n 0, 1) := by decide +kernel
theorem d_Mo_run_124 : decode c_Mo_run 124 = .ok (.iconst 0, 1) := by decide +kernel
theorem d_Mo_run_125 : decode c_Mo_run 125 = .ok (.putfield 158, 3) := by decide +kernel
theorem d_Mo_run_128 : decode c_Mo_run 128 = .ok (.aload_n 0, 1) := by decide +kernel
theorem d_Mo_run_129 : decode c_Mo_run 129 = .ok (.iconst (-1), 1) := by decide +kernel
theorem d_Mo_run_130 : decode c_Mo_run 130 = .ok (.putfield 168, 3) := by decide +kernel
theorem d_Mo_run_133 : decode c_Mo_run 133 = .ok (.aload_n 0, 1) := by decide +kernel
theorem d_Mo_run_134 : decode c_Mo_run 134 = .ok (.iload_n 1, 1) := by decide +kernel
theorem d_Mo_run_135 : decode c_Mo_run 135 = .ok (.iconst 0, 1) := by decide +kernel
theorem d_Mo_run_136 : decode c_Mo_run 136 = .ok (.invokevirtual 179, 3) := by decide +kernel
theorem d_Mo_run_139 : decode c_Mo_run 139 = .ok (.aload_n 0, 1) := by decide +kernel
theorem d_Mo_run_140 : decode c_Mo_run 140 = .ok (.getfield 158, 3) := by decide +kernel
theorem d_Mo_run_143 : decode c_Mo_run 143 = .ok (.ifCond .ne 38, 3) := by decide +kernel
theorem d_Mo_run_146 : decode c_Mo_run 146 = .ok (.aload_n 0, 1) := by decide +kernel
theorem d_Mo_run_147 : decode c_Mo_run 147 = .ok (.getfield 168, 3) := by decide +kernel
theorem d_Mo_run_150 : decode c_Mo_run 150 = .ok (.ifCond .lt 10, 3) := by decide +kernel
theorem d_Mo_run_153 : decode c_Mo_run 153 = .ok (.aload_n 0, 1) := by decide +kernel
theorem d_Mo_run_154 : decode c_Mo_run 154 = .ok (.getfield 143, 3) := by decide +kernel
theorem d_Mo_run_157 : decode c_Mo_run 157 = .ok (.ifCond .le 24, 3) := by decide +kernel
theorem d_Mo_run_160 : decode c_Mo_run 160 = .ok (.aload_n 0, 1) := by decide +kernel
theorem d_Mo_run_161 : decode c_Mo_run 161 = .ok (.getfield 168, 3) := by decide +kernel
theorem d_Mo_run_164 : decode c_Mo_run 164 = .ok (.ifCond .ge 10, 3) := by decide +kernel
theorem d_Mo_run_167 : decode c_Mo_run 167 = .ok (.aload_n 0, 1) := by decide +kernel
theorem d_Mo_run_168 : decode c_Mo_run 168 = .ok (.invokevirtual 186, 3) := by decide +kernel
theorem d_Mo_run_171 : decode c_Mo_run 171 = .ok (.goto (-32), 3) := by decide +kernel
theorem d_Mo_run_174 : decode c_Mo_run 174 = .ok (.aload_n 0, 1) := by decide +kernel
theorem d_Mo_run_175 : decode c_Mo_run 175 = .ok (.invokevirtual 189, 3) := by decide +kernel
theorem d_Mo_run_178 : decode c_Mo_run 178 = .ok (.goto (-39), 3) := by decide +kernel
theorem d_Mo_run_181 : decode c_Mo_run 181 = .ok (.aload_n 0, 1) := by decide +kernel
theorem d_Mo_run_182 : decode c_Mo_run 182 = .ok (.getfield 158, 3) := by decide +kernel
theorem d_Mo_run_185 : decode c_Mo_run 185 = .ok (.ifCond .eq 5, 3) := by decide +kernel
theorem d_Mo_run_188 : decode c_Mo_run 188 = .ok (.iconst 1, 1) := by decide +kernel
theorem d_Mo_run_189 : decode c_Mo_run 189 = .ok (.ireturn, 1) := by decide +kernel
theorem d_Mo_run_190 : decode c_Mo_run 190 = .ok (.aload_n 0, 1) := by decide +kernel
theorem d_Mo_run_191 : decode c_Mo_run 191 = .ok (.aload_n 0, 1) := by decide +kernel
theorem d_Mo_run_192 : decode c_Mo_run 192 = .ok (.getfield 168, 3) := by decide +kernel
theorem d_Mo_run_195 : decode c_Mo_run 195 = .ok (.putfield 35, 3) := by decide +kernel
theorem d_Mo_run_198 : decode c_Mo_run 198 = .ok (.iconst 0, 1) := by decide +kernel
theorem d_Mo_run_199 : decode c_Mo_run 199 = .ok (.ireturn, 1) := by decide +kernel