/-! the reference: questions, who may answer, answers, looks -/
section
variable {sc : Nat × (Nat → Int32)} {m : am_Mem} {M : Nat} {X : ms_X} {P R : Nat}
def x_hs (X : ms_X) (c : Nat) : Nat → Int64
  | 0 => 0
  | n + 1 => x_hs X c n + (X.1 12 (30 * c + n)).toInt64
def x_wo (X : ms_X) (P r : Nat) (a : Int32) : Nat → Int64
  | 0 => 0
  | n + 1 => if a < 0 ∨ nI (n % P) = a then x_wo X P r a n + (X.1 8 (30 * r + n)).toInt64 * (X.1 11 (30 * r + n)).toInt64 else x_wo X P r a n
def x_qI (kd a : Int32) : Prop := ((kd = 0 ∨ kd = 1 ∨ kd = 2 ∨ kd = 3) → x_ix a 30) ∧ ((kd = 4 ∨ kd = 5 ∨ kd = 6) → x_ix a 10)
def x_tell (X : ms_X) (P r : Nat) (kd a : Int32) : Int64 :=
  if kd = 0 then (X.1 8 (30 * r + nt a)).toInt64 else if kd = 1 then (X.1 9 (30 * r + nt a)).toInt64 else if kd = 2 then (X.1 10 (30 * r + nt a)).toInt64 else if kd = 3 then (X.1 11 (30 * r + nt a)).toInt64
  else if kd = 4 then X.2 13 (10 * r + nt a) else if kd = 5 then x_hs X (10 * r + nt a) 30 else if kd = 6 then (X.1 14 (10 * r + nt a)).toInt64 else if kd = 7 then (x_rnk X r a 30).toInt64 else x_wo X P r a 30
set_option maxHeartbeats 1000000 in
theorem x_tell_ok (hM : LM m M) (hP : x_PR X P R) {r : Nat} (hr : r < 8) {kd a : Int32} (hq : x_qI kd a) :
    am_W sc 95 0 [.ref M, .int (nI r), .int kd, .int a, .retAddr 1, .retAddr 1, .retAddr 1, .retAddr 1, .retAddr 1] [] (xm m M X) (am_R1 (some (.long (x_tell X P r kd a))) (xm m M X)) := by
  have hP1 := hP.1
  have hP3 := hP.2.2.1
  have hP4 := hP.2.2.2.1
  unfold x_tell
  refine am_bipush (i := 30) (v := 30) rfl iX7_tell_0 ?_
  refine am_iload_n iX7_tell_2 rfl rfl ?_
  refine am_imul iX7_tell_3 ?_
  refine am_iload_n iX7_tell_4 rfl rfl ?_
  refine am_iadd iX7_tell_5 ?_
  refine am_istore_4 iX7_tell_6 rfl rfl ?_
  refine am_bipush (i := 10) (v := 10) rfl iX7_tell_8 ?_
  refine am_iload_n iX7_tell_10 rfl rfl ?_
  refine am_imul iX7_tell_11 ?_
  refine am_iload_n iX7_tell_12 rfl rfl ?_
  refine am_iadd iX7_tell_13 ?_
  refine am_istore_5 iX7_tell_14 rfl rfl ?_
  refine am_lconst (i := 0) (v := 0) rfl iX7_tell_16 ?_
  refine am_lstore_6 iX7_tell_17 rfl rfl ?_
  refine am_iload_n iX7_tell_19 rfl rfl ?_
  have q30 : ∀ j : Nat, (30 : Int32) * nI r + nI j = nI (30 * r + j) := fun j => by simp only [nI_add, pk_mul, nL30]
  have q10 : ∀ j : Nat, (10 : Int32) * nI r + nI j = nI (10 * r + j) := fun j => by simp only [nI_add, pk_mul, nL10]
  by_cases k0 : kd = 0
  · obtain ⟨j, hj, hjt, rfl⟩ := x_ix_ex (hq.1 (by simp [k0]))
    subst k0
    rw [if_pos rfl, hjt, q30]
    refine am_tIn (q := 0) (off := 48) 68 iX7_tell_20 (by decide) (by decide) (by decide) (by decide) ?_
    refine am_aload_n iX7_tell_68 rfl rfl ?_
    refine x_getR 8 hM iX7_tell_69 fX7_tell_31 rfl rfl rfl ?_
    refine am_iload iX7_tell_72 rfl ?_
    refine x_iald (30 * r + j) hM rfl iX7_tell_74 (by first | rfl | simp only [nI_add, pk_mul, nI_1, nL0, nL1, nL2, nL3, nL4, nL10, nL30, nL300, nL401]) ((show 30 * r + j < 240 by omega)) ?_
    refine am_i2l iX7_tell_75 ?_
    exact am_lret iX7_tell_76 rfl (⟨rfl, rfl⟩)
  rw [if_neg k0]
  by_cases k1 : kd = 1
  · obtain ⟨j, hj, hjt, rfl⟩ := x_ix_ex (hq.1 (by simp [k1]))
    subst k1
    rw [if_pos rfl, hjt, q30]
    refine am_tIn (q := 0) (off := 57) 77 iX7_tell_20 (by decide) (by decide) (by decide) (by decide) ?_
    refine am_aload_n iX7_tell_77 rfl rfl ?_
    refine x_getR 9 hM iX7_tell_78 fX7_tell_34 rfl rfl rfl ?_
    refine am_iload iX7_tell_81 rfl ?_
    refine x_iald (30 * r + j) hM rfl iX7_tell_83 (by first | rfl | simp only [nI_add, pk_mul, nI_1, nL0, nL1, nL2, nL3, nL4, nL10, nL30, nL300, nL401]) ((show 30 * r + j < 240 by omega)) ?_
    refine am_i2l iX7_tell_84 ?_
    exact am_lret iX7_tell_85 rfl (⟨rfl, rfl⟩)
  rw [if_neg k1]
  by_cases k2 : kd = 2
  · obtain ⟨j, hj, hjt, rfl⟩ := x_ix_ex (hq.1 (by simp [k2]))
    subst k2
    rw [if_pos rfl, hjt, q30]
    refine am_tIn (q := 0) (off := 66) 86 iX7_tell_20 (by decide) (by decide) (by decide) (by decide) ?_
    refine am_aload_n iX7_tell_86 rfl rfl ?_
    refine x_getR 10 hM iX7_tell_87 fX7_tell_37 rfl rfl rfl ?_
    refine am_iload iX7_tell_90 rfl ?_
    refine x_iald (30 * r + j) hM rfl iX7_tell_92 (by first | rfl | simp only [nI_add, pk_mul, nI_1, nL0, nL1, nL2, nL3, nL4, nL10, nL30, nL300, nL401]) ((show 30 * r + j < 240 by omega)) ?_
    refine am_i2l iX7_tell_93 ?_
    exact am_lret iX7_tell_94 rfl (⟨rfl, rfl⟩)
  rw [if_neg k2]
  by_cases k3 : kd = 3
  · obtain ⟨j, hj, hjt, rfl⟩ := x_ix_ex (hq.1 (by simp [k3]))
    subst k3
    rw [if_pos rfl, hjt, q30]
    refine am_tIn (q := 0) (off := 75) 95 iX7_tell_20 (by decide) (by decide) (by decide) (by decide) ?_
    refine am_aload_n iX7_tell_95 rfl rfl ?_
    refine x_getR 11 hM iX7_tell_96 fX7_tell_40 rfl rfl rfl ?_
    refine am_iload iX7_tell_99 rfl ?_
    refine x_iald (30 * r + j) hM rfl iX7_tell_101 (by first | rfl | simp only [nI_add, pk_mul, nI_1, nL0, nL1, nL2, nL3, nL4, nL10, nL30, nL300, nL401]) ((show 30 * r + j < 240 by omega)) ?_
    refine am_i2l iX7_tell_102 ?_
    exact am_lret iX7_tell_103 rfl (⟨rfl, rfl⟩)
  rw [if_neg k3]
  by_cases k4 : kd = 4
  · obtain ⟨j, hj, hjt, rfl⟩ := x_ix_ex (hq.2 (by simp [k4]))
    subst k4
    rw [if_pos rfl, hjt, q10]
    refine am_tIn (q := 0) (off := 84) 104 iX7_tell_20 (by decide) (by decide) (by decide) (by decide) ?_
    refine am_aload_n iX7_tell_104 rfl rfl ?_
    refine x_getR 13 hM iX7_tell_105 fX7_tell_46 rfl rfl rfl ?_
    refine am_iload iX7_tell_108 rfl ?_
    refine x_lald (10 * r + j) hM rfl iX7_tell_110 (by first | rfl | simp only [nI_add, pk_mul, nI_1, nL0, nL1, nL2, nL3, nL4, nL10, nL30, nL300, nL401]) ((show 10 * r + j < 80 by omega)) ?_
    exact am_lret iX7_tell_111 rfl (⟨rfl, rfl⟩)
  rw [if_neg k4]
  by_cases k5 : kd = 5
  · obtain ⟨j, hj, hjt, rfl⟩ := x_ix_ex (hq.2 (by simp [k5]))
    subst k5
    rw [if_pos rfl, hjt, q10]
    refine am_tIn (q := 0) (off := 92) 112 iX7_tell_20 (by decide) (by decide) (by decide) (by decide) ?_
    have key : ∀ d n : Nat, n + d = 30 → am_W sc 95 115 [.ref M, .int (nI r), .int 5, .int (nI j), .int (30 * nI r + nI j), .int (nI (10 * r + j)), .long (x_hs X (10 * r + j) n), .retAddr 1, .int (nI n)] [] (xm m M X) (am_R1 (some (.long (x_hs X (10 * r + j) 30))) (xm m M X)) := by
      intro d
      induction d with
      | zero =>
        intro n hn
        have e : n = 30 := by omega
        subst e
        refine am_iload iX7_tell_115 rfl ?_
        refine am_bipush (i := 30) (v := 30) rfl iX7_tell_117 ?_
        refine am_icmp_ge iX7_tell_119 (fun _ => ?_) (fun hc => absurd (by decide) hc)
        refine am_lload iX7_tell_147 rfl ?_
        exact am_lret iX7_tell_149 rfl (⟨rfl, rfl⟩)
      | succ d ih =>
        intro n hn
        refine am_iload iX7_tell_115 rfl ?_
        refine am_bipush (i := 30) (v := 30) rfl iX7_tell_117 ?_
        refine am_icmp_ge iX7_tell_119 (fun hc => absurd hc (fun q => absurd ((nI_leI (a := 30) (b := n) (by omega) (by omega)).mp q) (by omega))) (fun _ => ?_)
        refine am_lload iX7_tell_122 rfl ?_
        refine am_aload_n iX7_tell_124 rfl rfl ?_
        refine x_getR 12 hM iX7_tell_125 fX7_tell_43 rfl rfl rfl ?_
        refine am_bipush (i := 30) (v := 30) rfl iX7_tell_128 ?_
        refine am_iload iX7_tell_130 rfl ?_
        refine am_imul iX7_tell_132 ?_
        refine am_iload iX7_tell_133 rfl ?_
        refine am_iadd iX7_tell_135 ?_
        refine x_iald (30 * (10 * r + j) + n) hM rfl iX7_tell_136 (by first | rfl | simp only [nI_add, pk_mul, nI_1, nL0, nL1, nL2, nL3, nL4, nL10, nL30, nL300, nL401]) ((show 30 * (10 * r + j) + n < 2400 by omega)) ?_
        refine am_i2l iX7_tell_137 ?_
        refine am_ladd iX7_tell_138 ?_
        refine am_lstore_6 iX7_tell_139 rfl rfl ?_
        refine am_iinc_8 1 iX7_tell_141 rfl rfl rfl ?_
        refine am_goto iX7_tell_144 ?_
        rw [nI_1]
        exact ih (n + 1) (by omega)
    refine am_iconst (i := 0) (v := 0) rfl iX7_tell_112 ?_
    refine am_istore_8 iX7_tell_113 rfl rfl ?_
    exact key 30 0 rfl
  rw [if_neg k5]
  by_cases k6 : kd = 6
  · obtain ⟨j, hj, hjt, rfl⟩ := x_ix_ex (hq.2 (by simp [k6]))
    subst k6
    rw [if_pos rfl, hjt, q10]
    refine am_tIn (q := 0) (off := 130) 150 iX7_tell_20 (by decide) (by decide) (by decide) (by decide) ?_
    refine am_aload_n iX7_tell_150 rfl rfl ?_
    refine x_getR 14 hM iX7_tell_151 fX7_tell_50 rfl rfl rfl ?_
    refine am_iload iX7_tell_154 rfl ?_
    refine x_iald (10 * r + j) hM rfl iX7_tell_156 (by first | rfl | simp only [nI_add, pk_mul, nI_1, nL0, nL1, nL2, nL3, nL4, nL10, nL30, nL300, nL401]) ((show 10 * r + j < 80 by omega)) ?_
    refine am_i2l iX7_tell_157 ?_
    exact am_lret iX7_tell_158 rfl (⟨rfl, rfl⟩)
  rw [if_neg k6]
  by_cases k7 : kd = 7
  · subst k7
    rw [if_pos rfl]
    refine am_tIn (q := 0) (off := 139) 159 iX7_tell_20 (by decide) (by decide) (by decide) (by decide) ?_
    refine am_aload_n iX7_tell_159 rfl rfl ?_
    refine am_iload_n iX7_tell_160 rfl rfl ?_
    refine am_iload_n iX7_tell_161 rfl rfl ?_
    refine am_cV2r iX7_tell_162 cX7_tell_225 mX7_ranked hM.1 rfl rfl rfl (x_ranked hM hr _) ?_
    refine am_i2l iX7_tell_165 ?_
    exact am_lret iX7_tell_166 rfl (⟨rfl, rfl⟩)
  rw [if_neg k7]
  have z0 := x_neI (n := 0) k0 (by decide)
  have z1 := x_neI (n := 1) k1 (by decide)
  have z2 := x_neI (n := 2) k2 (by decide)
  have z3 := x_neI (n := 3) k3 (by decide)
  have z4 := x_neI (n := 4) k4 (by decide)
  have z5 := x_neI (n := 5) k5 (by decide)
  have z6 := x_neI (n := 6) k6 (by decide)
  have z7 := x_neI (n := 7) k7 (by decide)
  refine am_tOut (q := 0) 167 iX7_tell_20 (by omega) (by decide) ?_
  have key : ∀ d n : Nat, n + d = 30 → am_W sc 95 170 [.ref M, .int (nI r), .int kd, .int a, .int (30 * nI r + a), .int (10 * nI r + a), .long (x_wo X P r a n), .retAddr 1, .int (nI n)] [] (xm m M X) (am_R1 (some (.long (x_wo X P r a 30))) (xm m M X)) := by
    intro d
    induction d with
    | zero =>
      intro n hn
      have e : n = 30 := by omega
      subst e
      refine am_iload iX7_tell_170 rfl ?_
      refine am_bipush (i := 30) (v := 30) rfl iX7_tell_172 ?_
      refine am_icmp_ge iX7_tell_174 (fun _ => ?_) (fun hc => absurd (by decide) hc)
      refine am_lload iX7_tell_230 rfl ?_
      exact am_lret iX7_tell_232 rfl (⟨rfl, rfl⟩)
    | succ d ih =>
      intro n hn
      refine am_iload iX7_tell_170 rfl ?_
      refine am_bipush (i := 30) (v := 30) rfl iX7_tell_172 ?_
      refine am_icmp_ge iX7_tell_174 (fun hc => absurd hc (fun q => absurd ((nI_leI (a := 30) (b := n) (by omega) (by omega)).mp q) (by omega))) (fun _ => ?_)
      have e1 : x_wo X P r a (n + 1) = if a < 0 ∨ nI (n % P) = a then x_wo X P r a n + (X.1 8 (30 * r + n)).toInt64 * (X.1 11 (30 * r + n)).toInt64 else x_wo X P r a n := rfl
      have yes : a < 0 ∨ nI (n % P) = a → am_W sc 95 192 [.ref M, .int (nI r), .int kd, .int a, .int (30 * nI r + a), .int (10 * nI r + a), .long (x_wo X P r a n), .retAddr 1, .int (nI n)] [] (xm m M X) (am_R1 (some (.long (x_wo X P r a 30))) (xm m M X)) := by
        intro hy
        rw [if_pos hy] at e1
        refine am_lload iX7_tell_192 rfl ?_
        refine am_aload_n iX7_tell_194 rfl rfl ?_
        refine x_getR 8 hM iX7_tell_195 fX7_tell_31 rfl rfl rfl ?_
        refine am_bipush (i := 30) (v := 30) rfl iX7_tell_198 ?_
        refine am_iload_n iX7_tell_200 rfl rfl ?_
        refine am_imul iX7_tell_201 ?_
        refine am_iload iX7_tell_202 rfl ?_
        refine am_iadd iX7_tell_204 ?_
        refine x_iald (30 * r + n) hM rfl iX7_tell_205 (by first | rfl | simp only [nI_add, pk_mul, nI_1, nL0, nL1, nL2, nL3, nL4, nL10, nL30, nL300, nL401]) ((show 30 * r + n < 240 by omega)) ?_
        refine am_i2l iX7_tell_206 ?_
        refine am_aload_n iX7_tell_207 rfl rfl ?_
        refine x_getR 11 hM iX7_tell_208 fX7_tell_40 rfl rfl rfl ?_
        refine am_bipush (i := 30) (v := 30) rfl iX7_tell_211 ?_
        refine am_iload_n iX7_tell_213 rfl rfl ?_
        refine am_imul iX7_tell_214 ?_
        refine am_iload iX7_tell_215 rfl ?_
        refine am_iadd iX7_tell_217 ?_
        refine x_iald (30 * r + n) hM rfl iX7_tell_218 (by first | rfl | simp only [nI_add, pk_mul, nI_1, nL0, nL1, nL2, nL3, nL4, nL10, nL30, nL300, nL401]) ((show 30 * r + n < 240 by omega)) ?_
        refine am_i2l iX7_tell_219 ?_
        refine am_lmul iX7_tell_220 ?_
        refine am_ladd iX7_tell_221 ?_
        refine am_lstore_6 iX7_tell_222 rfl rfl ?_
        refine am_iinc_8 1 iX7_tell_224 rfl rfl rfl ?_
        refine am_goto iX7_tell_227 ?_
        rw [nI_1, ← e1]
        exact ih (n + 1) (by omega)
      refine am_iload_n iX7_tell_177 rfl rfl ?_
      refine am_if_lt iX7_tell_178 (fun h1 => ?_) (fun h1 => ?_)
      · exact yes (Or.inl h1)
      · refine am_iload iX7_tell_181 rfl ?_
        refine am_aload_n iX7_tell_183 rfl rfl ?_
        refine x_getI hM iX7_tell_184 fX7_tell_114 ?_
        rw [hP1]
        refine am_irem (fun q => absurd ((nI_eq (a := P) (b := 0) (by omega) (by omega)).mp q) (by omega)) iX7_tell_187 ?_
        rw [pk_rem (by omega) (by omega) (by omega)]
        refine am_iload_n iX7_tell_188 rfl rfl ?_
        refine am_icmp_ne iX7_tell_189 (fun h2 => ?_) (fun h2 => ?_)
        · rw [if_neg (fun q => q.elim h1 h2)] at e1
          refine am_iinc_8 1 iX7_tell_224 rfl rfl rfl ?_
          refine am_goto iX7_tell_227 ?_
          rw [nI_1, ← e1]
          exact ih (n + 1) (by omega)
        · exact yes (Or.inr h2)
  refine am_iconst (i := 0) (v := 0) rfl iX7_tell_167 ?_
  refine am_istore_8 iX7_tell_168 rfl rfl ?_
  exact key 30 0 rfl
/-! may -/
def x_stl (X : ms_X) (r k : Nat) : Nat → Bool
  | 0 => true
  | n + 1 => x_stl X r k n && decide (X.1 1 n - X.1 15 (3 * r + n) ≤ X.1 26 k)
def x_may0 (X : ms_X) (P r k s : Nat) : Bool := !decide (X.1 18 r = 0) && (x_cov X 25 (3 * k) r P && ((decide (X.1 19 s &&& 1 = 0) || x_cov X 21 (3 * s) r P) && (decide (X.1 19 s &&& 2 = 0) || x_cov X 22 (3 * s) r P)))
def x_may (X : ms_X) (P r k : Nat) : Bool := x_may0 X P r k (nt (X.1 24 k)) && (if X.1 26 k < 0 then true else x_stl X r k P)
set_option maxHeartbeats 1000000 in
theorem x_may_ok (hM : LM m M) (hP : x_PR X P R) {r k : Nat} (hr : r < 4) (hk : k < 500) (hs : x_ix (X.1 24 k) 8) :
    am_W sc 97 0 [.ref M, .int (nI r), .int (nI k), .retAddr 1, .retAddr 1, .retAddr 1] [] (xm m M X) (am_R1 (some (.int (x_b (x_may X P r k)))) (xm m M X)) := by
  obtain ⟨s, hs1, hst, hs2⟩ := x_ix_ex hs
  have hP1 := hP.1
  have hP4 := hP.2.2.2.1
  unfold x_may
  rw [hst]
  have k3 : (3 : Int32) * nI k = nI (3 * k) := by simp only [pk_mul, nL3]
  have s3 : (3 : Int32) * nI s = nI (3 * s) := by simp only [pk_mul, nL3]
  have tail : ∀ g : Bool, am_W sc 97 88 [.ref M, .int (nI r), .int (nI k), .int (nI s), .retAddr 1, .retAddr 1] [.int (x_b g)] (xm m M X) (am_R1 (some (.int (x_b (g && (if X.1 26 k < 0 then true else x_stl X r k P))))) (xm m M X)) := by
    intro g
    have key : ¬ X.1 26 k < 0 → ∀ d p : Nat, p + d = P → am_W sc 97 93 [.ref M, .int (nI r), .int (nI k), .int (nI s), .int (x_b (g && x_stl X r k p)), .int (nI p)] [] (xm m M X) (am_R1 (some (.int (x_b (g && x_stl X r k P)))) (xm m M X)) := by
      intro hst d
      induction d with
      | zero =>
        intro p hp
        have e : p = P := by omega
        subst e
        refine am_iload iX7_may_93 rfl ?_
        refine am_aload_n iX7_may_95 rfl rfl ?_
        refine x_getI hM iX7_may_96 fX7_may_114 ?_
        rw [hP1]
        refine am_icmp_ge iX7_may_99 (fun _ => ?_) (fun hc => absurd (nI_le (Nat.le_refl _) (by omega)) hc)
        refine am_iload iX7_may_155 rfl ?_
        exact am_zret iX7_may_157 rfl (x_b01 _) (⟨rfl, rfl⟩)
      | succ d ih =>
        intro p hp
        refine am_iload iX7_may_93 rfl ?_
        refine am_aload_n iX7_may_95 rfl rfl ?_
        refine x_getI hM iX7_may_96 fX7_may_114 ?_
        rw [hP1]
        refine am_icmp_ge iX7_may_99 (fun hc => absurd hc (fun q => absurd ((nI_leI (by omega) (by omega)).mp q) (by omega))) (fun _ => ?_)
        refine am_aload_n iX7_may_102 rfl rfl ?_
        refine x_getR 26 hM iX7_may_103 fX7_may_87 rfl rfl rfl ?_
        refine am_iload_n iX7_may_106 rfl rfl ?_
        refine x_iald (k) hM rfl iX7_may_107 (by first | rfl | simp only [nI_add, pk_mul, nI_1, nL0, nL1, nL2, nL3, nL4, nL10, nL30, nL300, nL401]) (hk) ?_
        refine am_if_lt iX7_may_108 (fun hc => absurd hc (hst)) (fun _ => ?_)
        refine am_iload iX7_may_111 rfl ?_
        refine am_aload_n iX7_may_113 rfl rfl ?_
        refine x_getR 1 hM iX7_may_114 fX7_may_7 rfl rfl rfl ?_
        refine am_iload iX7_may_117 rfl ?_
        refine x_iald (p) hM rfl iX7_may_119 (by first | rfl | simp only [nI_add, pk_mul, nI_1, nL0, nL1, nL2, nL3, nL4, nL10, nL30, nL300, nL401]) ((show p < 3 by omega)) ?_
        refine am_aload_n iX7_may_120 rfl rfl ?_
        refine x_getR 15 hM iX7_may_121 fX7_may_53 rfl rfl rfl ?_
        refine am_iconst (i := 3) (v := 3) rfl iX7_may_124 ?_
        refine am_iload_n iX7_may_125 rfl rfl ?_
        refine am_imul iX7_may_126 ?_
        refine am_iload iX7_may_127 rfl ?_
        refine am_iadd iX7_may_129 ?_
        refine x_iald (3 * r + p) hM rfl iX7_may_130 (by first | rfl | simp only [nI_add, pk_mul, nI_1, nL0, nL1, nL2, nL3, nL4, nL10, nL30, nL300, nL401]) ((show 3 * r + p < 24 by omega)) ?_
        refine am_isub iX7_may_131 ?_
        refine am_aload_n iX7_may_132 rfl rfl ?_
        refine x_getR 26 hM iX7_may_133 fX7_may_87 rfl rfl rfl ?_
        refine am_iload_n iX7_may_136 rfl rfl ?_
        refine x_iald (k) hM rfl iX7_may_137 (by first | rfl | simp only [nI_add, pk_mul, nI_1, nL0, nL1, nL2, nL3, nL4, nL10, nL30, nL300, nL401]) (hk) ?_
        have e0 : x_stl X r k (p + 1) = (x_stl X r k p && decide (X.1 1 p - X.1 15 (3 * r + p) ≤ X.1 26 k)) := rfl
        refine am_icmp_gt iX7_may_138 (fun hc => ?_) (fun hc => ?_)
        · refine am_iconst (i := 0) (v := 0) rfl iX7_may_145 ?_
          refine am_iand iX7_may_146 ?_
          refine am_istore_4 iX7_may_147 rfl rfl ?_
          refine am_iinc_5 1 iX7_may_149 rfl rfl rfl ?_
          refine am_goto iX7_may_152 ?_
          rw [x_b_and0, nI_1]
          rw [decide_eq_false (Int32.not_le.mpr hc)] at e0
          have := ih (p + 1) (by omega)
          rw [e0] at this
          rw [Bool.and_assoc]
          exact this
        · refine am_iconst (i := 1) (v := 1) rfl iX7_may_141 ?_
          refine am_goto iX7_may_142 ?_
          refine am_iand iX7_may_146 ?_
          refine am_istore_4 iX7_may_147 rfl rfl ?_
          refine am_iinc_5 1 iX7_may_149 rfl rfl rfl ?_
          refine am_goto iX7_may_152 ?_
          rw [x_b_and1, nI_1]
          rw [decide_eq_true (Int32.not_lt.mp hc)] at e0
          have := ih (p + 1) (by omega)
          rw [e0] at this
          rw [Bool.and_assoc]
          exact this
    refine am_istore_4 iX7_may_88 rfl rfl ?_
    refine am_iconst (i := 0) (v := 0) rfl iX7_may_90 ?_
    refine am_istore_5 iX7_may_91 rfl rfl ?_
    by_cases hneg : X.1 26 k < 0
    · rw [if_pos hneg, Bool.and_true]
      refine am_iload iX7_may_93 rfl ?_
      refine am_aload_n iX7_may_95 rfl rfl ?_
      refine x_getI hM iX7_may_96 fX7_may_114 ?_
      rw [hP1]
      refine am_icmp_ge iX7_may_99 (fun hc => absurd hc (fun q => absurd ((nI_leI (a := P) (b := 0) (by omega) (by omega)).mp q) (by have := hP.2.2.1; omega))) (fun _ => ?_)
      refine am_aload_n iX7_may_102 rfl rfl ?_
      refine x_getR 26 hM iX7_may_103 fX7_may_87 rfl rfl rfl ?_
      refine am_iload_n iX7_may_106 rfl rfl ?_
      refine x_iald (k) hM rfl iX7_may_107 (by first | rfl | simp only [nI_add, pk_mul, nI_1, nL0, nL1, nL2, nL3, nL4, nL10, nL30, nL300, nL401]) (hk) ?_
      refine am_if_lt iX7_may_108 (fun _ => ?_) (fun hc => absurd (hneg) hc)
      refine am_iload iX7_may_155 rfl ?_
      exact am_zret iX7_may_157 rfl (x_b01 _) (⟨rfl, rfl⟩)
    · rw [if_neg hneg]
      have := key hneg P 0 (by omega)
      rw [show (g && x_stl X r k 0) = g from Bool.and_true g] at this
      exact this
  have no : ∀ w : Bool, w = false → am_W sc 97 87 [.ref M, .int (nI r), .int (nI k), .int (nI s), .retAddr 1, .retAddr 1] [] (xm m M X) (am_R1 (some (.int (x_b (w && (if X.1 26 k < 0 then true else x_stl X r k P))))) (xm m M X)) := by
    intro w hw
    subst hw
    refine am_iconst (i := 0) (v := 0) rfl iX7_may_87 ?_
    exact tail false
  have yes : ∀ w : Bool, w = true → am_W sc 97 83 [.ref M, .int (nI r), .int (nI k), .int (nI s), .retAddr 1, .retAddr 1] [] (xm m M X) (am_R1 (some (.int (x_b (w && (if X.1 26 k < 0 then true else x_stl X r k P))))) (xm m M X)) := by
    intro w hw
    subst hw
    refine am_iconst (i := 1) (v := 1) rfl iX7_may_83 ?_
    refine am_goto iX7_may_84 ?_
    exact tail true
  refine am_aload_n iX7_may_0 rfl rfl ?_
  refine x_getR 24 hM iX7_may_1 fX7_may_81 rfl rfl rfl ?_
  refine am_iload_n iX7_may_4 rfl rfl ?_
  refine x_iald (k) hM rfl iX7_may_5 (by first | rfl | simp only [nI_add, pk_mul, nI_1, nL0, nL1, nL2, nL3, nL4, nL10, nL30, nL300, nL401]) (hk) ?_
  rw [hs2]
  refine am_istore_n_3 iX7_may_6 rfl rfl ?_
  refine am_aload_n iX7_may_7 rfl rfl ?_
  refine x_getR 18 hM iX7_may_8 fX7_may_62 rfl rfl rfl ?_
  refine am_iload_n iX7_may_11 rfl rfl ?_
  refine x_zald (r) hM rfl iX7_may_12 (by first | rfl | simp only [nI_add, pk_mul, nI_1, nL0, nL1, nL2, nL3, nL4, nL10, nL30, nL300, nL401]) (hr) ?_
  refine am_if_eq iX7_may_13 (fun h1 => ?_) (fun h1 => ?_)
  · exact no _ (by unfold x_may0; rw [decide_eq_true h1]; rfl)
  refine am_aload_n iX7_may_16 rfl rfl ?_
  refine am_aload_n iX7_may_17 rfl rfl ?_
  refine x_getR 25 hM iX7_may_18 fX7_may_84 rfl rfl rfl ?_
  refine am_iconst (i := 3) (v := 3) rfl iX7_may_21 ?_
  refine am_iload_n iX7_may_22 rfl rfl ?_
  refine am_imul iX7_may_23 ?_
  rw [k3]
  refine am_iload_n iX7_may_24 rfl rfl ?_
  refine am_cV3r iX7_may_25 cX7_may_185 mX7_covers hM.1 rfl rfl rfl (x_covers hM hP 25 (3 * k) r rfl (show 3 * k + 3 ≤ 1500 by omega) (by omega)) ?_
  cases c1 : x_cov X 25 (3 * k) r P
  · refine am_if_eq iX7_may_28 (fun _ => ?_) (fun hc => absurd (by decide) hc)
    exact no _ (by unfold x_may0; rw [c1]; simp)
  refine am_if_eq iX7_may_28 (fun hc => absurd hc (by decide)) (fun _ => ?_)
  have m2 : (decide (X.1 19 s &&& 1 = 0) || x_cov X 21 (3 * s) r P) = true → am_W sc 97 57 [.ref M, .int (nI r), .int (nI k), .int (nI s), .retAddr 1, .retAddr 1] [] (xm m M X) (am_R1 (some (.int (x_b (x_may0 X P r k s && (if X.1 26 k < 0 then true else x_stl X r k P))))) (xm m M X)) := by
    intro hm
    refine am_aload_n iX7_may_57 rfl rfl ?_
    refine x_getR 19 hM iX7_may_58 fX7_may_66 rfl rfl rfl ?_
    refine am_iload_n iX7_may_61 rfl rfl ?_
    refine x_iald (s) hM rfl iX7_may_62 (by first | rfl | simp only [nI_add, pk_mul, nI_1, nL0, nL1, nL2, nL3, nL4, nL10, nL30, nL300, nL401]) (hs1) ?_
    refine am_iconst (i := 2) (v := 2) rfl iX7_may_63 ?_
    refine am_iand iX7_may_64 ?_
    refine am_if_eq iX7_may_65 (fun h2 => ?_) (fun h2 => ?_)
    · exact yes _ (by unfold x_may0; rw [decide_eq_false h1, c1, hm, decide_eq_true h2]; rfl)
    · refine am_aload_n iX7_may_68 rfl rfl ?_
      refine am_aload_n iX7_may_69 rfl rfl ?_
      refine x_getR 22 hM iX7_may_70 fX7_may_75 rfl rfl rfl ?_
      refine am_iconst (i := 3) (v := 3) rfl iX7_may_73 ?_
      refine am_iload_n iX7_may_74 rfl rfl ?_
      refine am_imul iX7_may_75 ?_
      rw [s3]
      refine am_iload_n iX7_may_76 rfl rfl ?_
      refine am_cV3r iX7_may_77 cX7_may_185 mX7_covers hM.1 rfl rfl rfl (x_covers hM hP 22 (3 * s) r rfl (show 3 * s + 3 ≤ 24 by omega) (by omega)) ?_
      cases c3 : x_cov X 22 (3 * s) r P
      · refine am_if_eq iX7_may_80 (fun _ => ?_) (fun hc => absurd (by decide) hc)
        exact no _ (by unfold x_may0; rw [c3, decide_eq_false h2]; simp)
      · refine am_if_eq iX7_may_80 (fun hc => absurd hc (by decide)) (fun _ => ?_)
        exact yes _ (by unfold x_may0; rw [decide_eq_false h1, c1, hm, c3]; simp)
  refine am_aload_n iX7_may_31 rfl rfl ?_
  refine x_getR 19 hM iX7_may_32 fX7_may_66 rfl rfl rfl ?_
  refine am_iload_n iX7_may_35 rfl rfl ?_
  refine x_iald (s) hM rfl iX7_may_36 (by first | rfl | simp only [nI_add, pk_mul, nI_1, nL0, nL1, nL2, nL3, nL4, nL10, nL30, nL300, nL401]) (hs1) ?_
  refine am_iconst (i := 1) (v := 1) rfl iX7_may_37 ?_
  refine am_iand iX7_may_38 ?_
  refine am_if_eq iX7_may_39 (fun h2 => ?_) (fun h2 => ?_)
  · exact m2 (by rw [decide_eq_true h2]; rfl)
  refine am_aload_n iX7_may_42 rfl rfl ?_
  refine am_aload_n iX7_may_43 rfl rfl ?_
  refine x_getR 21 hM iX7_may_44 fX7_may_72 rfl rfl rfl ?_
  refine am_iconst (i := 3) (v := 3) rfl iX7_may_47 ?_
  refine am_iload_n iX7_may_48 rfl rfl ?_
  refine am_imul iX7_may_49 ?_
  rw [s3]
  refine am_iload_n iX7_may_50 rfl rfl ?_
  refine am_cV3r iX7_may_51 cX7_may_185 mX7_covers hM.1 rfl rfl rfl (x_covers hM hP 21 (3 * s) r rfl (show 3 * s + 3 ≤ 24 by omega) (by omega)) ?_
  cases c2 : x_cov X 21 (3 * s) r P
  · refine am_if_eq iX7_may_54 (fun _ => ?_) (fun hc => absurd (by decide) hc)
    exact no _ (by unfold x_may0; rw [c2, decide_eq_false h2]; simp)
  refine am_if_eq iX7_may_54 (fun hc => absurd hc (by decide)) (fun _ => ?_)
  exact m2 (by rw [c2]; simp)
end
