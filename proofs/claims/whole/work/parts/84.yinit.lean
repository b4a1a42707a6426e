/-! the class's constructor -/
section
variable {sc : Nat × (Nat → Int32)} {m m2 m3 : am_Mem} {a b s g i : Nat} {P R : Nat}
theorem c_st.up (h : c_st m m2 b) (hb : am_n m < b) : c_up m m2 := ⟨h.1, fun c hc => by
  obtain ⟨b1, b2, b3, b4⟩ := h.2 c hc
  exact ⟨b1, b2, fun j => ⟨(b3 j).1, (b3 j).2, b4 (by omega) j⟩⟩⟩
theorem c_row (h : c_up m m2) (hg : g ≤ am_n m) (i b : Nat) : c_st m (am_setR m2 g i b) g ∧ am_R (am_setR m2 g i b) g i = b ∧ ∀ k, k ≠ i → am_R (am_setR m2 g i b) g k = am_R m g k := by
  refine ⟨⟨h.1, fun c hc => ?_⟩, if_pos ⟨rfl, rfl⟩, fun k hk => (if_neg (fun q => hk q.2)).trans ((h.2 g hg).2.2 k).2.2⟩
  obtain ⟨b1, b2, b3⟩ := h.2 c hc
  exact ⟨b1, b2, fun j => ⟨(b3 j).1, (b3 j).2.1⟩, fun hn j => (if_neg (fun q => hn q.1)).trans (b3 j).2.2⟩
def F1 (P : Nat) (m : am_Mem) (i : Nat) : Prop := cb m 2 15 P z0 ∧ ∀ k, k < i → am_R m 2 k = 3 + 2 * k ∧ c_lb m (3 + 2 * k)
def F2 (P R : Nat) (m : am_Mem) (i : Nat) : Prop := cb m (3 + 2 * P) 17 R z0 ∧ ∀ k, k < i → am_R m (3 + 2 * P) k = 4 + 2 * P + 19 * k ∧ c_rb m (4 + 2 * P + 19 * k)
def F3 (P R : Nat) (m : am_Mem) (i : Nat) : Prop := cb m (4 + 2 * P + 19 * R) 18 8 z0 ∧ ∀ k, k < i → am_R m (4 + 2 * P + 19 * R) k = 5 + 2 * P + 19 * R + 3 * k ∧ c_ssb m (5 + 2 * P + 19 * R + 3 * k)
theorem F1.st (h : F1 P m i) (hs : c_st m m2 g) (h1 : 2 + 2 * i ≤ am_n m) (h2 : g = 1 ∨ 2 + 2 * i < g) : F1 P m2 i := ⟨h.1.st hs (by omega), fun k hk => ⟨((hs.2 2 (by omega)).2.2.2 (by omega) k).trans (h.2 k hk).1, (h.2 k hk).2.st hs (by omega) (by omega)⟩⟩
theorem F2.st (h : F2 P R m i) (hs : c_st m m2 g) (h1 : 3 + 2 * P + 19 * i ≤ am_n m) (h2 : g = 1 ∨ 3 + 2 * P + 19 * i < g) : F2 P R m2 i := ⟨h.1.st hs (by omega), fun k hk => ⟨((hs.2 (3 + 2 * P) (by omega)).2.2.2 (by omega) k).trans (h.2 k hk).1, (h.2 k hk).2.st hs (by omega) (by omega)⟩⟩
theorem F3.st (h : F3 P R m i) (hs : c_st m m2 g) (h1 : 4 + 2 * P + 19 * R + 3 * i ≤ am_n m) (h2 : g = 1 ∨ 4 + 2 * P + 19 * R + 3 * i < g) : F3 P R m2 i := ⟨h.1.st hs (by omega), fun k hk => ⟨((hs.2 (4 + 2 * P + 19 * R) (by omega)).2.2.2 (by omega) k).trans (h.2 k hk).1, (h.2 k hk).2.st hs (by omega) (by omega)⟩⟩
theorem F1.more (h : F1 P m i) (hu : c_up m m2) (hn : am_n m = 2 + 2 * i) (hb : c_lb m2 (3 + 2 * i)) (hn2 : am_n m2 = 4 + 2 * i) : F1 P (am_setR m2 2 i (3 + 2 * i)) (i + 1) := by
  obtain ⟨s1, r1, r2⟩ := c_row hu (g := 2) (by omega) i (3 + 2 * i)
  refine ⟨h.1.st s1 (by omega), fun k hk => ?_⟩
  by_cases e : k = i
  · subst e
    exact ⟨r1, hb.st (c_st.setR _ _ _ _) (by omega) (by omega)⟩
  · exact ⟨(r2 k e).trans (h.2 k (by omega)).1, (h.2 k (by omega)).2.st s1 (by omega) (by omega)⟩
theorem F2.more (h : F2 P R m i) (hu : c_up m m2) (hn : am_n m = 3 + 2 * P + 19 * i) (hb : c_rb m2 (4 + 2 * P + 19 * i)) (hn2 : am_n m2 = 22 + 2 * P + 19 * i) : F2 P R (am_setR m2 (3 + 2 * P) i (4 + 2 * P + 19 * i)) (i + 1) := by
  obtain ⟨s1, r1, r2⟩ := c_row hu (g := 3 + 2 * P) (by omega) i (4 + 2 * P + 19 * i)
  refine ⟨h.1.st s1 (by omega), fun k hk => ?_⟩
  by_cases e : k = i
  · subst e
    exact ⟨r1, hb.st (c_st.setR _ _ _ _) (by omega) (by omega)⟩
  · exact ⟨(r2 k e).trans (h.2 k (by omega)).1, (h.2 k (by omega)).2.st s1 (by omega) (by omega)⟩
theorem F3.more (h : F3 P R m i) (hu : c_up m m2) (hn : am_n m = 4 + 2 * P + 19 * R + 3 * i) (hb : c_ssb m2 (5 + 2 * P + 19 * R + 3 * i)) (hn2 : am_n m2 = 7 + 2 * P + 19 * R + 3 * i) : F3 P R (am_setR m2 (4 + 2 * P + 19 * R) i (5 + 2 * P + 19 * R + 3 * i)) (i + 1) := by
  obtain ⟨s1, r1, r2⟩ := c_row hu (g := 4 + 2 * P + 19 * R) (by omega) i (5 + 2 * P + 19 * R + 3 * i)
  refine ⟨h.1.st s1 (by omega), fun k hk => ?_⟩
  by_cases e : k = i
  · subst e
    exact ⟨r1, hb.st (c_st.setR _ _ _ _) (by omega) (by omega)⟩
  · exact ⟨(r2 k e).trans (h.2 k (by omega)).1, (h.2 k (by omega)).2.st s1 (by omega) (by omega)⟩
def c_CL (m : am_Mem) (P R : Nat) : Prop := am_n m = 30 + 2 * P + 19 * R ∧ cb m 1 6 0 z0 ∧ (am_R m 1 0 = 2 ∧ am_R m 1 1 = 3 + 2 * P ∧ am_R m 1 2 = 4 + 2 * P + 19 * R ∧ am_R m 1 3 = 29 + 2 * P + 19 * R ∧ am_R m 1 4 = 30 + 2 * P + 19 * R) ∧ F1 P m P ∧ F2 P R m R ∧ F3 P R m 8 ∧ cb m (29 + 2 * P + 19 * R) 16 500 z0 ∧ cb m (30 + 2 * P + 19 * R) 16 40 z0
theorem nP_lo {p : Int32} (h : p < 1) : nI (x_nP p) = 2 := by
  unfold x_nP
  rw [if_neg]
  · rfl
  · intro q
    have := of_decide_eq_true q
    rw [Int32.lt_iff_toInt_lt] at h
    have e : (1 : Int32).toInt = 1 := by decide
    omega
theorem nP_hi {p : Int32} (h : 3 < p) : nI (x_nP p) = 2 := by
  unfold x_nP
  rw [if_neg]
  · rfl
  · intro q
    have := of_decide_eq_true q
    rw [Int32.lt_iff_toInt_lt] at h
    have e : (3 : Int32).toInt = 3 := by decide
    omega
theorem nP_in {p : Int32} (h1 : ¬ p < 1) (h2 : ¬ 3 < p) : nI (x_nP p) = p := by
  have q : x_rg p 1 3 = true := by
    refine decide_eq_true ?_
    rw [Int32.lt_iff_toInt_lt] at h1 h2
    have e : (3 : Int32).toInt = 3 := by decide
    have e1 : (1 : Int32).toInt = 1 := by decide
    omega
  unfold x_nP
  rw [if_pos q]
  exact (x_rg_j q (by decide)).1.symm
theorem nR_lo {p : Int32} (h : p < 1) : nI (x_nR p) = 2 := by
  unfold x_nR
  rw [if_neg]
  · rfl
  · intro q
    have := of_decide_eq_true q
    rw [Int32.lt_iff_toInt_lt] at h
    have e : (1 : Int32).toInt = 1 := by decide
    omega
theorem nR_hi {p : Int32} (h : 4 < p) : nI (x_nR p) = 2 := by
  unfold x_nR
  rw [if_neg]
  · rfl
  · intro q
    have := of_decide_eq_true q
    rw [Int32.lt_iff_toInt_lt] at h
    have e : (4 : Int32).toInt = 4 := by decide
    omega
theorem nR_in {p : Int32} (h1 : ¬ p < 1) (h2 : ¬ 4 < p) : nI (x_nR p) = p := by
  have q : x_rg p 1 4 = true := by
    refine decide_eq_true ?_
    rw [Int32.lt_iff_toInt_lt] at h1 h2
    have e : (4 : Int32).toInt = 4 := by decide
    have e1 : (1 : Int32).toInt = 1 := by decide
    omega
  unfold x_nR
  rw [if_pos q]
  exact (x_rg_j q (by decide)).1.symm
set_option maxHeartbeats 1000000 in
/-- sessions, reads, waiting -/
theorem y_init3 {p r : Int32} {Q : am_Out → am_Mem → Prop} {v5 : Value} (hP : P ≤ 3) (hR : R ≤ 4) (hn : am_n m = 3 + 2 * P + 19 * R) (c1 : cb m 1 6 0 z0) (r0 : am_R m 1 0 = 2) (r1 : am_R m 1 1 = 3 + 2 * P) (f1 : F1 P m P) (f2 : F2 P R m R) (h1 : 112 ≤ am_CM) (h2 : am_u m + 700 ≤ am_SM) (hQ : ∀ m', c_CL m' P R → am_u m' = am_u m + 628 → Q (.inl none) m') : am_W sc 23 113 [.ref 1, .int p, .int r, .int (nI P), .int (nI R), v5] [] m Q := by
  have last : ∀ mm, am_n mm = 28 + 2 * P + 19 * R → am_u mm = am_u m + 88 → cb mm 1 6 0 z0 → am_R mm 1 0 = 2 → am_R mm 1 1 = 3 + 2 * P → am_R mm 1 2 = 4 + 2 * P + 19 * R → F1 P mm P → F2 P R mm R → F3 P R mm 8 → ∀ v5, am_W sc 23 152 [.ref 1, .int p, .int r, .int (nI P), .int (nI R), v5] [] mm Q := by
    intro mm q1 q2 q3 q4 q5 q6 q7 q8 q9 v5
    refine am_aload_n iX6_init_152 rfl rfl ?_
    refine am_sipush (i := 500) (v := 500) rfl iX6_init_153 ?_
    refine am_newq (ci := 2) (N := 500) iX6_init_156 (by decide) wd_132 wd_133 (by decide) (by decide) (by decide) (by omega) (by omega) ?_
    obtain ⟨s1, t1, t2⟩ := c_row (c_up.new mm 16 500 500) (g := 1) (by omega) 3 (am_n mm + 1)
    have b1 : cb (am_setR (am_new mm 16 500 500) 1 3 (am_n mm + 1)) (am_n mm + 1) 16 500 z0 := (cb.new mm 16 500 500).st (c_st.setR _ 1 _ _) (Nat.le_refl _)
    have n1 : am_n (am_setR (am_new mm 16 500 500) 1 3 (am_n mm + 1)) = am_n mm + 1 ∧ am_u (am_setR (am_new mm 16 500 500) 1 3 (am_n mm + 1)) = am_u mm + 500 := ⟨rfl, rfl⟩
    refine am_putR iX6_init_159 fX6_init_32 (by decide +kernel) (((c_st.new mm 16 500 500 1).2 1 (by omega)).1.trans q3.1) ?_
    have t0 := (t2 0 (by decide)).trans q4
    have t01 := (t2 1 (by decide)).trans q5
    have t02 := (t2 2 (by decide)).trans q6
    show am_W _ _ _ _ _ (am_setR (am_new mm 16 500 500) 1 3 (am_n mm + 1)) _
    generalize am_setR (am_new mm 16 500 500) 1 3 (am_n mm + 1) = M at s1 t1 b1 n1 t0 t01 t02 ⊢
    refine am_aload_n iX6_init_162 rfl rfl ?_
    refine am_bipush (i := 40) (v := 40) rfl iX6_init_163 ?_
    refine am_newq (ci := 2) (N := 40) iX6_init_165 (by decide) wd_132 wd_133 (by decide) (by decide) (by decide) (by omega) (by omega) ?_
    obtain ⟨s2, w1, w2⟩ := c_row (c_up.new M 16 40 40) (g := 1) (by omega) 4 (am_n M + 1)
    have b2 : cb (am_setR (am_new M 16 40 40) 1 4 (am_n M + 1)) (am_n M + 1) 16 40 z0 := (cb.new M 16 40 40).st (c_st.setR _ 1 _ _) (Nat.le_refl _)
    have n2 : am_n (am_setR (am_new M 16 40 40) 1 4 (am_n M + 1)) = am_n M + 1 ∧ am_u (am_setR (am_new M 16 40 40) 1 4 (am_n M + 1)) = am_u M + 40 := ⟨rfl, rfl⟩
    refine am_putR iX6_init_168 fX6_init_36 (by decide +kernel) (((c_st.new M 16 40 40 1).2 1 (by omega)).1.trans ((s1.2 1 (by omega)).1.trans q3.1)) ?_
    have t0 := (w2 0 (by decide)).trans t0
    have t01 := (w2 1 (by decide)).trans t01
    have t02 := (w2 2 (by decide)).trans t02
    have t03 := (w2 3 (by decide)).trans t1
    show am_W _ _ _ _ _ (am_setR (am_new M 16 40 40) 1 4 (am_n M + 1)) _
    generalize am_setR (am_new M 16 40 40) 1 4 (am_n M + 1) = M2 at s2 w1 b2 n2 t0 t01 t02 t03 ⊢
    refine am_vret iX6_init_171 rfl (hQ M2 ⟨by omega, (q3.st s1 (by omega)).st s2 (by omega), ⟨t0, t01, t02, t03.trans (by omega), w1.trans (by omega)⟩, (q7.st s1 (by omega) (by omega)).st s2 (by omega) (by omega), (q8.st s1 (by omega) (by omega)).st s2 (by omega) (by omega), (q9.st s1 (by omega) (by omega)).st s2 (by omega) (by omega), ?_, ?_⟩ (by omega))
    · rw [show 29 + 2 * P + 19 * R = am_n mm + 1 by omega]
      exact b1.st s2 (by omega)
    · rw [show 30 + 2 * P + 19 * R = am_n M + 1 by omega]
      exact b2
  have loop : ∀ d i, i + d = 8 → ∀ mm, am_n mm = 4 + 2 * P + 19 * R + 3 * i → am_u mm = am_u m + 8 + 10 * i → cb mm 1 6 0 z0 → am_R mm 1 0 = 2 → am_R mm 1 1 = 3 + 2 * P → am_R mm 1 2 = 4 + 2 * P + 19 * R → F1 P mm P → F2 P R mm R → F3 P R mm i → am_W sc 23 125 [.ref 1, .int p, .int r, .int (nI P), .int (nI R), .int (nI i)] [] mm Q := by
    intro d
    induction d with
    | zero =>
      intro i hi mm q1 q2 q3 q4 q5 q6 q7 q8 q9
      have e : i = 8 := by omega
      subst e
      refine am_iload iX6_init_125 rfl ?_
      refine am_bipush (i := 8) (v := 8) rfl iX6_init_127 ?_
      refine am_icmp_ge iX6_init_129 (fun _ => ?_) (fun hc => absurd (by decide) hc)
      exact last mm (by omega) (by omega) q3 q4 q5 q6 q7 q8 q9 _
    | succ d ih =>
      intro i hi mm q1 q2 q3 q4 q5 q6 q7 q8 q9
      refine am_iload iX6_init_125 rfl ?_
      refine am_bipush (i := 8) (v := 8) rfl iX6_init_127 ?_
      refine am_icmp_ge iX6_init_129 (fun hc => absurd hc (fun q => absurd ((nI_leI (a := 8) (b := i) (by omega) (by omega)).mp q) (by omega))) (fun _ => ?_)
      refine am_aload_n iX6_init_132 rfl rfl ?_
      refine am_getR iX6_init_133 fX6_init_25 (q3.1) ?_
      rw [q6]
      refine am_iload iX6_init_136 rfl ?_
      refine am_newo (ci := 4) (N := 4) iX6_init_138 (by decide) rfl wd_109 wd_111 wd_5 (by omega) (by omega) ?_
      have sA : c_st mm (am_new mm 4 0 4) (am_n mm + 1) := c_st.new _ _ _ _ _
      have bA : cb (am_new mm 4 0 4) (am_n mm + 1) 4 0 z0 := cb.new mm 4 0 4
      have nA : am_n (am_new mm 4 0 4) = am_n mm + 1 ∧ am_u (am_new mm 4 0 4) = am_u mm + 4 := ⟨rfl, rfl⟩
      generalize am_new mm 4 0 4 = MA at sA bA nA ⊢
      refine am_dup iX6_init_141 rfl ?_
      refine am_eI0v iX6_init_142 cX6_init_29 mX4_init ((by omega)) rfl rfl rfl (y_Session bA (by omega) nA.1 (by omega) (by omega)) ?_
      rintro M1 ⟨s1, n1, u1, b1⟩
      have up := (sA.trans s1).up (Nat.lt_succ_self _)
      have e1 : am_n mm + 1 = 5 + 2 * P + 19 * R + 3 * i := by omega
      rw [e1] at b1
      have k3 := (q9.1.st (sA.trans s1) (by omega))
      rw [e1]
      refine am_aast (ci := 4) iX6_init_145 k3.1 (by decide) (Or.inr b1.1.1) (by rw [k3.2.1]; exact vp_in_nI (N := 8) (by omega) (by decide)) ?_
      rw [nI_clamp (by omega)]
      obtain ⟨sR, -, -⟩ := c_row up (g := 4 + 2 * P + 19 * R) (by omega) i (5 + 2 * P + 19 * R + 3 * i)
      have f3 := q9.more up q1 b1 (by omega)
      have rr := (sR.2 1 (by omega)).2.2.2 (by omega)
      have nn : am_n (am_setR M1 (4 + 2 * P + 19 * R) i (5 + 2 * P + 19 * R + 3 * i)) = am_n M1 ∧ am_u (am_setR M1 (4 + 2 * P + 19 * R) i (5 + 2 * P + 19 * R + 3 * i)) = am_u M1 := ⟨rfl, rfl⟩
      generalize am_setR M1 (4 + 2 * P + 19 * R) i (5 + 2 * P + 19 * R + 3 * i) = M2 at sR f3 rr nn ⊢
      refine am_iinc_5 1 iX6_init_146 rfl rfl rfl ?_
      refine am_goto iX6_init_149 ?_
      rw [nI_1]
      exact ih (i + 1) (by omega) M2 (by omega) (by omega) (q3.st sR (by omega)) ((rr 0).trans q4) ((rr 1).trans q5) ((rr 2).trans q6) (q7.st sR (by omega) (by omega)) (q8.st sR (by omega) (by omega)) f3
  refine am_aload_n iX6_init_113 rfl rfl ?_
  refine am_bipush (i := 8) (v := 8) rfl iX6_init_114 ?_
  refine am_newq (ci := 4) (N := 8) iX6_init_116 (by decide) wd_109 wd_110 (by decide) (by decide) (by decide) (by omega) (by omega) ?_
  obtain ⟨s1, t1, t2⟩ := c_row (c_up.new m 18 8 8) (g := 1) (by omega) 2 (am_n m + 1)
  have b1 : cb (am_setR (am_new m 18 8 8) 1 2 (am_n m + 1)) (am_n m + 1) 18 8 z0 := (cb.new m 18 8 8).st (c_st.setR _ 1 _ _) (Nat.le_refl _)
  have n1 : am_n (am_setR (am_new m 18 8 8) 1 2 (am_n m + 1)) = am_n m + 1 ∧ am_u (am_setR (am_new m 18 8 8) 1 2 (am_n m + 1)) = am_u m + 8 := ⟨rfl, rfl⟩
  refine am_putR iX6_init_119 fX6_init_25 (by decide +kernel) (((c_st.new m 18 8 8 1).2 1 (by omega)).1.trans c1.1) ?_
  have t0 := (t2 0 (by decide)).trans r0
  have t01 := (t2 1 (by decide)).trans r1
  show am_W _ _ _ _ _ (am_setR (am_new m 18 8 8) 1 2 (am_n m + 1)) _
  generalize am_setR (am_new m 18 8 8) 1 2 (am_n m + 1) = M at s1 t1 b1 n1 t0 t01 ⊢
  refine am_iconst (i := 0) (v := 0) rfl iX6_init_122 ?_
  refine am_istore_5 iX6_init_123 rfl rfl ?_
  refine loop 8 0 rfl M (by omega) (by omega) (c1.st s1 (by omega)) t0 t01 (t1.trans (by omega)) (f1.st s1 (by omega) (by omega)) (f2.st s1 (by omega) (by omega)) ⟨?_, fun k hk => by omega⟩
  rw [show 4 + 2 * P + 19 * R = am_n m + 1 by omega]
  exact b1
set_option maxHeartbeats 1000000 in
/-- replicas -/
theorem y_init2 {p r : Int32} {Q : am_Out → am_Mem → Prop} {v5 : Value} (hP : P ≤ 3) (hR : R ≤ 4) (hn : am_n m = 2 + 2 * P) (c1 : cb m 1 6 0 z0) (r0 : am_R m 1 0 = 2) (f1 : F1 P m P) (h1 : 112 ≤ am_CM) (h2 : am_u m + 4400 ≤ am_SM) (hQ : ∀ m', c_CL m' P R → am_u m' ≤ am_u m + 4400 → Q (.inl none) m') : am_W sc 23 74 [.ref 1, .int p, .int r, .int (nI P), .int (nI R), v5] [] m Q := by
  have loop : ∀ d i, i + d = R → ∀ mm, am_n mm = 3 + 2 * P + 19 * i → am_u mm = am_u m + R + 907 * i → cb mm 1 6 0 z0 → am_R mm 1 0 = 2 → am_R mm 1 1 = 3 + 2 * P → F1 P mm P → F2 P R mm i → am_W sc 23 86 [.ref 1, .int p, .int r, .int (nI P), .int (nI R), .int (nI i)] [] mm Q := by
    intro d
    induction d with
    | zero =>
      intro i hi mm q1 q2 q3 q4 q5 q7 q8
      have e : R = i := by omega
      subst e
      refine am_iload iX6_init_86 rfl ?_
      refine am_iload iX6_init_88 rfl ?_
      refine am_icmp_ge iX6_init_90 (fun _ => ?_) (fun hc => absurd (nI_le (Nat.le_refl _) (by omega)) hc)
      exact y_init3 hP hR (by omega) q3 q4 q5 q7 q8 h1 (by omega) (fun m' z1 z2 => hQ m' z1 (by omega))
    | succ d ih =>
      intro i hi mm q1 q2 q3 q4 q5 q7 q8
      refine am_iload iX6_init_86 rfl ?_
      refine am_iload iX6_init_88 rfl ?_
      refine am_icmp_ge iX6_init_90 (fun hc => absurd hc (fun q => absurd ((nI_leI (by omega) (by omega)).mp q) (by omega))) (fun _ => ?_)
      refine am_aload_n iX6_init_93 rfl rfl ?_
      refine am_getR iX6_init_94 fX6_init_18 (q3.1) ?_
      rw [q5]
      refine am_iload iX6_init_97 rfl ?_
      refine am_newo (ci := 3) (N := 7) iX6_init_99 (by decide) rfl wd_46 wd_48 wd_3 (by omega) (by omega) ?_
      have sA : c_st mm (am_new mm 3 0 7) (am_n mm + 1) := c_st.new _ _ _ _ _
      have bA : cb (am_new mm 3 0 7) (am_n mm + 1) 3 0 z0 := cb.new mm 3 0 7
      have nA : am_n (am_new mm 3 0 7) = am_n mm + 1 ∧ am_u (am_new mm 3 0 7) = am_u mm + 7 := ⟨rfl, rfl⟩
      generalize am_new mm 3 0 7 = MA at sA bA nA ⊢
      refine am_dup iX6_init_102 rfl ?_
      refine am_eI0v iX6_init_103 cX6_init_22 mX3_init ((by omega)) rfl rfl rfl (y_Replica bA (by omega) nA.1 (by omega) (by omega)) ?_
      rintro M1 ⟨⟨-, s1⟩, n1, u1, b1⟩
      have up : c_up mm M1 := ⟨by omega, fun c hc => by
        obtain ⟨x1, x2, x3, x4⟩ := sA.2 c hc
        obtain ⟨y1, y2, y3, y4⟩ := s1 c (by omega)
        exact ⟨y1.trans x1, y2.trans x2, fun j => ⟨(y3 j).1.trans (x3 j).1, (y3 j).2.trans (x3 j).2, (y4 j).trans (x4 (by omega) j)⟩⟩⟩
      have e1 : am_n mm + 1 = 4 + 2 * P + 19 * i := by omega
      rw [e1] at b1
      obtain ⟨sR, -, -⟩ := c_row up (g := 3 + 2 * P) (by omega) i (4 + 2 * P + 19 * i)
      have k3 : am_K M1 (3 + 2 * P) = 17 ∧ am_L M1 (3 + 2 * P) = R := ⟨(up.2 _ (by omega)).1.trans q8.1.1, (up.2 _ (by omega)).2.1.trans q8.1.2.1⟩
      rw [e1]
      refine am_aast (ci := 3) iX6_init_106 k3.1 (by decide) (Or.inr b1.1.1) (by rw [k3.2]; exact vp_in_nI (by omega) (by omega)) ?_
      rw [nI_clamp (by omega)]
      have f2 := q8.more up q1 b1 (by omega)
      have rr := (sR.2 1 (by omega)).2.2.2 (by omega)
      have nn : am_n (am_setR M1 (3 + 2 * P) i (4 + 2 * P + 19 * i)) = am_n M1 ∧ am_u (am_setR M1 (3 + 2 * P) i (4 + 2 * P + 19 * i)) = am_u M1 := ⟨rfl, rfl⟩
      generalize am_setR M1 (3 + 2 * P) i (4 + 2 * P + 19 * i) = M2 at sR f2 rr nn ⊢
      refine am_iinc_5 1 iX6_init_107 rfl rfl rfl ?_
      refine am_goto iX6_init_110 ?_
      rw [nI_1]
      exact ih (i + 1) (by omega) M2 (by omega) (by omega) (q3.st sR (by omega)) ((rr 0).trans q4) ((rr 1).trans q5) (q7.st sR (by omega) (by omega)) f2
  refine am_aload_n iX6_init_74 rfl rfl ?_
  refine am_iload iX6_init_75 rfl ?_
  refine am_newq (ci := 3) (N := R) iX6_init_77 (by decide) wd_46 wd_47 (nI_nn (by omega)) (nI_clamp (by omega)) (by omega) (by omega) (by omega) ?_
  obtain ⟨s1, t1, t2⟩ := c_row (c_up.new m 17 R R) (g := 1) (by omega) 1 (am_n m + 1)
  have b1 : cb (am_setR (am_new m 17 R R) 1 1 (am_n m + 1)) (am_n m + 1) 17 R z0 := (cb.new m 17 R R).st (c_st.setR _ 1 _ _) (Nat.le_refl _)
  have n1 : am_n (am_setR (am_new m 17 R R) 1 1 (am_n m + 1)) = am_n m + 1 ∧ am_u (am_setR (am_new m 17 R R) 1 1 (am_n m + 1)) = am_u m + R := ⟨rfl, rfl⟩
  refine am_putR iX6_init_80 fX6_init_18 (by decide +kernel) (((c_st.new m 17 R R 1).2 1 (by omega)).1.trans c1.1) ?_
  have t0 := (t2 0 (by decide)).trans r0
  show am_W _ _ _ _ _ (am_setR (am_new m 17 R R) 1 1 (am_n m + 1)) _
  generalize am_setR (am_new m 17 R R) 1 1 (am_n m + 1) = M at s1 t1 b1 n1 t0 ⊢
  refine am_iconst (i := 0) (v := 0) rfl iX6_init_83 ?_
  refine am_istore_5 iX6_init_84 rfl rfl ?_
  refine loop R 0 (by omega) M (by omega) (by omega) (c1.st s1 (by omega)) t0 (t1.trans (by omega)) (f1.st s1 (by omega) (by omega)) ⟨?_, fun k hk => by omega⟩
  rw [show 3 + 2 * P = am_n m + 1 by omega]
  exact b1
set_option maxHeartbeats 1000000 in
/-- logs -/
theorem y_init1 {p r : Int32} {Q : am_Out → am_Mem → Prop} {v5 : Value} (hP : P ≤ 3) (hR : R ≤ 4) (hn : am_n m = 1) (c1 : cb m 1 6 0 z0) (h1 : 112 ≤ am_CM) (h2 : am_u m + 6000 ≤ am_SM) (hQ : ∀ m', c_CL m' P R → am_u m' ≤ am_u m + 6000 → Q (.inl none) m') : am_W sc 23 37 [.ref 1, .int p, .int r, .int (nI P), .int (nI R), v5] [] m Q := by
  have loop : ∀ d i, i + d = P → ∀ mm, am_n mm = 2 + 2 * i → am_u mm = am_u m + P + 403 * i → cb mm 1 6 0 z0 → am_R mm 1 0 = 2 → F1 P mm i → am_W sc 23 48 [.ref 1, .int p, .int r, .int (nI P), .int (nI R), .int (nI i)] [] mm Q := by
    intro d
    induction d with
    | zero =>
      intro i hi mm q1 q2 q3 q4 q7
      have e : P = i := by omega
      subst e
      refine am_iload iX6_init_48 rfl ?_
      refine am_iload_n iX6_init_50 rfl rfl ?_
      refine am_icmp_ge iX6_init_51 (fun _ => ?_) (fun hc => absurd (nI_le (Nat.le_refl _) (by omega)) hc)
      exact y_init2 hP hR q1 q3 q4 q7 h1 (by omega) (fun m' z1 z2 => hQ m' z1 (by omega))
    | succ d ih =>
      intro i hi mm q1 q2 q3 q4 q7
      refine am_iload iX6_init_48 rfl ?_
      refine am_iload_n iX6_init_50 rfl rfl ?_
      refine am_icmp_ge iX6_init_51 (fun hc => absurd hc (fun q => absurd ((nI_leI (by omega) (by omega)).mp q) (by omega))) (fun _ => ?_)
      refine am_aload_n iX6_init_54 rfl rfl ?_
      refine am_getR iX6_init_55 fX6_init_11 (q3.1) ?_
      rw [q4]
      refine am_iload iX6_init_58 rfl ?_
      refine am_newo (ci := 1) (N := 3) iX6_init_60 (by decide) rfl wd_25 wd_27 wd_2 (by omega) (by omega) ?_
      have sA : c_st mm (am_new mm 1 0 3) (am_n mm + 1) := c_st.new _ _ _ _ _
      have bA : cb (am_new mm 1 0 3) (am_n mm + 1) 1 0 z0 := cb.new mm 1 0 3
      have nA : am_n (am_new mm 1 0 3) = am_n mm + 1 ∧ am_u (am_new mm 1 0 3) = am_u mm + 3 := ⟨rfl, rfl⟩
      generalize am_new mm 1 0 3 = MA at sA bA nA ⊢
      refine am_dup iX6_init_63 rfl ?_
      refine am_eI0v iX6_init_64 cX6_init_15 mX1_init ((by omega)) rfl rfl rfl (y_Log bA (by omega) nA.1 (by omega) (by omega)) ?_
      rintro M1 ⟨s1, n1, u1, b1⟩
      have up := (sA.trans s1).up (Nat.lt_succ_self _)
      have e1 : am_n mm + 1 = 3 + 2 * i := by omega
      rw [e1] at b1
      have k3 := (q7.1.st (sA.trans s1) (by omega))
      rw [e1]
      refine am_aast (ci := 1) iX6_init_67 k3.1 (by decide) (Or.inr b1.1.1) (by rw [k3.2.1]; exact vp_in_nI (by omega) (by omega)) ?_
      rw [nI_clamp (by omega)]
      obtain ⟨sR, -, -⟩ := c_row up (g := 2) (by omega) i (3 + 2 * i)
      have f1 := q7.more up q1 b1 (by omega)
      have rr := (sR.2 1 (by omega)).2.2.2 (by omega)
      have nn : am_n (am_setR M1 2 i (3 + 2 * i)) = am_n M1 ∧ am_u (am_setR M1 2 i (3 + 2 * i)) = am_u M1 := ⟨rfl, rfl⟩
      generalize am_setR M1 2 i (3 + 2 * i) = M2 at sR f1 rr nn ⊢
      refine am_iinc_5 1 iX6_init_68 rfl rfl rfl ?_
      refine am_goto iX6_init_71 ?_
      rw [nI_1]
      exact ih (i + 1) (by omega) M2 (by omega) (by omega) (q3.st sR (by omega)) ((rr 0).trans q4) f1
  refine am_aload_n iX6_init_37 rfl rfl ?_
  refine am_iload_n iX6_init_38 rfl rfl ?_
  refine am_newq (ci := 1) (N := P) iX6_init_39 (by decide) wd_25 wd_26 (nI_nn (by omega)) (nI_clamp (by omega)) (by omega) (by omega) (by omega) ?_
  obtain ⟨s1, t1, t2⟩ := c_row (c_up.new m 15 P P) (g := 1) (by omega) 0 (am_n m + 1)
  have b1 : cb (am_setR (am_new m 15 P P) 1 0 (am_n m + 1)) (am_n m + 1) 15 P z0 := (cb.new m 15 P P).st (c_st.setR _ 1 _ _) (Nat.le_refl _)
  have n1 : am_n (am_setR (am_new m 15 P P) 1 0 (am_n m + 1)) = am_n m + 1 ∧ am_u (am_setR (am_new m 15 P P) 1 0 (am_n m + 1)) = am_u m + P := ⟨rfl, rfl⟩
  refine am_putR iX6_init_42 fX6_init_11 (by decide +kernel) (((c_st.new m 15 P P 1).2 1 (by omega)).1.trans c1.1) ?_
  show am_W _ _ _ _ _ (am_setR (am_new m 15 P P) 1 0 (am_n m + 1)) _
  generalize am_setR (am_new m 15 P P) 1 0 (am_n m + 1) = M at s1 t1 b1 n1 ⊢
  refine am_iconst (i := 0) (v := 0) rfl iX6_init_45 ?_
  refine am_istore_5 iX6_init_46 rfl rfl ?_
  refine loop P 0 (by omega) M (by omega) (by omega) (c1.st s1 (by omega)) (t1.trans (by omega)) ⟨?_, fun k hk => by omega⟩
  rw [show 2 = am_n m + 1 by omega]
  exact b1
theorem y_init {p r : Int32} (c1 : cb m 1 6 0 z0) (hn : am_n m = 1) (h1 : 112 ≤ am_CM) (h2 : am_u m + 6000 ≤ am_SM) : am_W sc 23 0 [.ref 1, .int p, .int r, .retAddr 1, .retAddr 1, .retAddr 1] [] m (am_RE none (fun m' => c_CL m' (x_nP p) (x_nR r) ∧ am_u m' ≤ am_u m + 6000)) := by
  have hP := (x_nP_le p).2
  have hR := (x_nR_le r).2
  have t2 : am_W sc 23 35 [.ref 1, .int p, .int r, .int (nI (x_nP p)), .retAddr 1, .retAddr 1] [.int (nI (x_nR r))] m (am_RE none (fun m' => c_CL m' (x_nP p) (x_nR r) ∧ am_u m' ≤ am_u m + 6000)) := by
    refine am_istore_4 iX6_init_35 rfl rfl ?_
    exact y_init1 hP hR hn c1 h1 h2 (fun m' z1 z2 => ⟨rfl, z1, z2⟩)
  have t1 : am_W sc 23 19 [.ref 1, .int p, .int r, .retAddr 1, .retAddr 1, .retAddr 1] [.int (nI (x_nP p))] m (am_RE none (fun m' => c_CL m' (x_nP p) (x_nR r) ∧ am_u m' ≤ am_u m + 6000)) := by
    refine am_istore_n_3 iX6_init_19 rfl rfl ?_
    refine am_iload_n iX6_init_20 rfl rfl ?_
    refine am_iconst (i := 1) (v := 1) rfl iX6_init_21 ?_
    refine am_icmp_lt iX6_init_22 (fun c1 => ?_) (fun c1 => ?_)
    · rw [nR_lo c1] at t2
      refine am_iconst (i := 2) (v := 2) rfl iX6_init_34 ?_
      exact t2
    · refine am_iload_n iX6_init_25 rfl rfl ?_
      refine am_iconst (i := 4) (v := 4) rfl iX6_init_26 ?_
      refine am_icmp_gt iX6_init_27 (fun c2 => ?_) (fun c2 => ?_)
      · rw [nR_hi c2] at t2
        refine am_iconst (i := 2) (v := 2) rfl iX6_init_34 ?_
        exact t2
      · rw [nR_in c1 c2] at t2
        refine am_iload_n iX6_init_30 rfl rfl ?_
        refine am_goto iX6_init_31 ?_
        exact t2
  refine am_aload_n iX6_init_0 rfl rfl ?_
  refine am_oinit iX6_init_1 wd_22 wd_23 g_oi2 (Nat.le_of_ble_eq_true rfl) (Nat.le_of_ble_eq_true rfl) (by decide) ?_
  refine am_iload_n iX6_init_4 rfl rfl ?_
  refine am_iconst (i := 1) (v := 1) rfl iX6_init_5 ?_
  refine am_icmp_lt iX6_init_6 (fun c1 => ?_) (fun c1 => ?_)
  · rw [nP_lo c1] at t1
    refine am_iconst (i := 2) (v := 2) rfl iX6_init_18 ?_
    exact t1
  · refine am_iload_n iX6_init_9 rfl rfl ?_
    refine am_iconst (i := 3) (v := 3) rfl iX6_init_10 ?_
    refine am_icmp_gt iX6_init_11 (fun c2 => ?_) (fun c2 => ?_)
    · rw [nP_hi c2] at t1
      refine am_iconst (i := 2) (v := 2) rfl iX6_init_18 ?_
      exact t1
    · rw [nP_in c1 c2] at t1
      refine am_iload_n iX6_init_14 rfl rfl ?_
      refine am_goto iX6_init_15 ?_
      exact t1
end
