/-! the reference: a command is taken; a read fails; ranks -/
section
variable {sc : Nat × (Nat → Int32)} {m : am_Mem} {M : Nat} {X : ms_X} {P R : Nat}
theorem x_ix_ex {v : Int32} {n : Nat} (h : x_ix v n) : ∃ j : Nat, j < n ∧ nt v = j ∧ v = nI j := ⟨nt v, h.1, rfl, h.2⟩
theorem x_neI {x : Int32} {n : Nat} (h : ¬ x = nI n) (hn : n < 2 ^ 31) : ¬ x.toInt = (n : Int) := fun q => h (Int32.toInt_inj.mp (q.trans (nI_toInt hn).symm))
def x_takeI (X : ms_X) (i c h : Nat) (n kd : Int32) : ms_X :=
  if kd = 0 then (if X.1 8 i + n ≤ 100000 then xU X 8 i (X.1 8 i + n) else X)
  else if kd = 1 then (if n ≤ X.1 8 i - X.1 9 i then xU (xU X 12 h (X.1 12 h + n)) 9 i ((xU X 12 h (X.1 12 h + n)).1 9 i + n) else xU X 14 c (X.1 14 c + 1))
  else if kd = 2 then (if X.1 12 h < n then X else
    let A := xU X 12 h (X.1 12 h - n)
    let B := xU A 9 i (A.1 9 i - n)
    let C := xU B 8 i (B.1 8 i - n)
    let D := xU C 10 i (C.1 10 i + n)
    xV D 13 c (D.2 13 c + n.toInt64 * (D.1 11 i).toInt64))
  else if kd = 3 then
    let z := if n < X.1 12 h then n else X.1 12 h
    let A := xU X 12 h (X.1 12 h - z)
    xU A 9 i (A.1 9 i - z)
  else xU X 11 i n
def x_take (X : ms_X) (r k : Nat) : ms_X := x_takeI X (30 * r + nt (X.1 4 k)) (10 * r + nt (X.1 5 k)) (30 * (10 * r + nt (X.1 5 k)) + nt (X.1 4 k)) (X.1 6 k) (X.1 3 k)
set_option maxHeartbeats 1000000 in
theorem x_take_ok (hM : LM m M) {r k : Nat} (hr : r < 8) (hk : k < 1203) (h4 : x_ix (X.1 4 k) 30) (h5 : x_ix (X.1 5 k) 10) :
    am_W sc 80 0 [.ref M, .int (nI r), .int (nI k), .retAddr 1, .retAddr 1, .retAddr 1, .retAddr 1, .retAddr 1] [] (xm m M X) (am_R1 none (xm m M (x_take X r k))) := by
  obtain ⟨it, hi, hi1, hi2⟩ := x_ix_ex h4
  obtain ⟨cu, hc0, hc1, hc2⟩ := x_ix_ex h5
  have e0 : x_take X r k = x_takeI X (30 * r + it) (10 * r + cu) (30 * (10 * r + cu) + it) (X.1 6 k) (X.1 3 k) := by
    unfold x_take
    rw [hi1, hc1]
  rw [e0]
  refine am_bipush (i := 30) (v := 30) rfl iX7_take_0 ?_
  refine am_iload_n iX7_take_2 rfl rfl ?_
  refine am_imul iX7_take_3 ?_
  refine am_aload_n iX7_take_4 rfl rfl ?_
  refine x_getR 4 hM iX7_take_5 fX7_take_19 rfl rfl rfl ?_
  refine am_iload_n iX7_take_8 rfl rfl ?_
  refine x_iald (k) hM rfl iX7_take_9 (by first | rfl | simp only [nI_add, pk_mul, nI_1, nL0, nL1, nL2, nL3, nL4, nL10, nL30, nL300, nL401]) (hk) ?_
  rw [hi2]
  have q1 : (30 : Int32) * nI r + nI it = nI (30 * r + it) := by simp only [nI_add, pk_mul, nL30]
  have q2 : (10 : Int32) * nI r + nI cu = nI (10 * r + cu) := by simp only [nI_add, pk_mul, nL10]
  have q3 : (30 : Int32) * nI (10 * r + cu) + nI it = nI (30 * (10 * r + cu) + it) := by simp only [nI_add, pk_mul, nL30]
  refine am_iadd iX7_take_10 ?_
  rw [q1]
  refine am_istore_n_3 iX7_take_11 rfl rfl ?_
  refine am_bipush (i := 10) (v := 10) rfl iX7_take_12 ?_
  refine am_iload_n iX7_take_14 rfl rfl ?_
  refine am_imul iX7_take_15 ?_
  refine am_aload_n iX7_take_16 rfl rfl ?_
  refine x_getR 5 hM iX7_take_17 fX7_take_22 rfl rfl rfl ?_
  refine am_iload_n iX7_take_20 rfl rfl ?_
  refine x_iald (k) hM rfl iX7_take_21 (by first | rfl | simp only [nI_add, pk_mul, nI_1, nL0, nL1, nL2, nL3, nL4, nL10, nL30, nL300, nL401]) (hk) ?_
  rw [hc2]
  refine am_iadd iX7_take_22 ?_
  rw [q2]
  refine am_istore_4 iX7_take_23 rfl rfl ?_
  refine am_bipush (i := 30) (v := 30) rfl iX7_take_25 ?_
  refine am_iload iX7_take_27 rfl ?_
  refine am_imul iX7_take_29 ?_
  refine am_aload_n iX7_take_30 rfl rfl ?_
  refine x_getR 4 hM iX7_take_31 fX7_take_19 rfl rfl rfl ?_
  refine am_iload_n iX7_take_34 rfl rfl ?_
  refine x_iald (k) hM rfl iX7_take_35 (by first | rfl | simp only [nI_add, pk_mul, nI_1, nL0, nL1, nL2, nL3, nL4, nL10, nL30, nL300, nL401]) (hk) ?_
  rw [hi2]
  refine am_iadd iX7_take_36 ?_
  rw [q3]
  refine am_istore_5 iX7_take_37 rfl rfl ?_
  refine am_aload_n iX7_take_39 rfl rfl ?_
  refine x_getR 6 hM iX7_take_40 fX7_take_25 rfl rfl rfl ?_
  refine am_iload_n iX7_take_43 rfl rfl ?_
  refine x_iald (k) hM rfl iX7_take_44 (by first | rfl | simp only [nI_add, pk_mul, nI_1, nL0, nL1, nL2, nL3, nL4, nL10, nL30, nL300, nL401]) (hk) ?_
  refine am_istore_6 iX7_take_45 rfl rfl ?_
  refine am_aload_n iX7_take_47 rfl rfl ?_
  refine x_getR 3 hM iX7_take_48 fX7_take_16 rfl rfl rfl ?_
  refine am_iload_n iX7_take_51 rfl rfl ?_
  refine x_iald (k) hM rfl iX7_take_52 (by first | rfl | simp only [nI_add, pk_mul, nI_1, nL0, nL1, nL2, nL3, nL4, nL10, nL30, nL300, nL401]) (hk) ?_
  generalize X.1 6 k = n
  generalize X.1 3 k = kd
  have b1 : 30 * r + it < 240 := by omega
  have b2 : 10 * r + cu < 80 := by omega
  have b3 : 30 * (10 * r + cu) + it < 2400 := by omega
  generalize 30 * (10 * r + cu) + it = h at b3 ⊢
  generalize 30 * r + it = i at b1 ⊢
  generalize 10 * r + cu = c at b2 ⊢
  unfold x_takeI
  by_cases k0 : kd = 0
  · subst k0
    rw [if_pos rfl]
    refine am_tIn (q := 0) (off := 31) 84 iX7_take_53 (by decide) (by decide) (by decide) (by decide) ?_
    refine am_aload_n iX7_take_84 rfl rfl ?_
    refine x_getR 8 hM iX7_take_85 fX7_take_31 rfl rfl rfl ?_
    refine am_iload_n iX7_take_88 rfl rfl ?_
    refine x_iald (i) hM rfl iX7_take_89 (by first | rfl | simp only [nI_add, pk_mul, nI_1, nL0, nL1, nL2, nL3, nL4, nL10, nL30, nL300, nL401]) (b1) ?_
    refine am_iload iX7_take_90 rfl ?_
    refine am_iadd iX7_take_92 ?_
    refine am_ldc (v := 100000) (wd_877) iX7_take_93 ?_
    refine am_icmp_gt iX7_take_95 (fun hc => ?_) (fun hc => ?_)
    · rw [if_neg (Int32.not_le.mpr hc)]
      exact am_vret iX7_take_302 rfl (⟨rfl, rfl⟩)
    · rw [if_pos (Int32.not_lt.mp hc)]
      refine am_aload_n iX7_take_98 rfl rfl ?_
      refine x_getR 8 hM iX7_take_99 fX7_take_31 rfl rfl rfl ?_
      refine am_iload_n iX7_take_102 rfl rfl ?_
      refine am_dup2 iX7_take_103 rfl rfl ?_
      refine x_iald (i) hM rfl iX7_take_104 (by first | rfl | simp only [nI_add, pk_mul, nI_1, nL0, nL1, nL2, nL3, nL4, nL10, nL30, nL300, nL401]) (b1) ?_
      refine am_iload iX7_take_105 rfl ?_
      refine am_iadd iX7_take_107 ?_
      refine x_iast (i) hM rfl iX7_take_108 (by first | rfl | simp only [nI_add, pk_mul, nI_1, nL0, nL1, nL2, nL3, nL4, nL10, nL30, nL300, nL401]) (b1) ?_
      refine am_goto iX7_take_109 ?_
      exact am_vret iX7_take_302 rfl (⟨rfl, rfl⟩)
  rw [if_neg k0]
  by_cases k1 : kd = 1
  · subst k1
    rw [if_pos rfl]
    refine am_tIn (q := 0) (off := 59) 112 iX7_take_53 (by decide) (by decide) (by decide) (by decide) ?_
    refine am_aload_n iX7_take_112 rfl rfl ?_
    refine x_getR 8 hM iX7_take_113 fX7_take_31 rfl rfl rfl ?_
    refine am_iload_n iX7_take_116 rfl rfl ?_
    refine x_iald (i) hM rfl iX7_take_117 (by first | rfl | simp only [nI_add, pk_mul, nI_1, nL0, nL1, nL2, nL3, nL4, nL10, nL30, nL300, nL401]) (b1) ?_
    refine am_aload_n iX7_take_118 rfl rfl ?_
    refine x_getR 9 hM iX7_take_119 fX7_take_34 rfl rfl rfl ?_
    refine am_iload_n iX7_take_122 rfl rfl ?_
    refine x_iald (i) hM rfl iX7_take_123 (by first | rfl | simp only [nI_add, pk_mul, nI_1, nL0, nL1, nL2, nL3, nL4, nL10, nL30, nL300, nL401]) (b1) ?_
    refine am_isub iX7_take_124 ?_
    refine am_iload iX7_take_125 rfl ?_
    refine am_icmp_lt iX7_take_127 (fun hc => ?_) (fun hc => ?_)
    · rw [if_neg (Int32.not_le.mpr hc)]
      refine am_aload_n iX7_take_156 rfl rfl ?_
      refine x_getR 14 hM iX7_take_157 fX7_take_50 rfl rfl rfl ?_
      refine am_iload iX7_take_160 rfl ?_
      refine am_dup2 iX7_take_162 rfl rfl ?_
      refine x_iald (c) hM rfl iX7_take_163 (by first | rfl | simp only [nI_add, pk_mul, nI_1, nL0, nL1, nL2, nL3, nL4, nL10, nL30, nL300, nL401]) (b2) ?_
      refine am_iconst (i := 1) (v := 1) rfl iX7_take_164 ?_
      refine am_iadd iX7_take_165 ?_
      refine x_iast (c) hM rfl iX7_take_166 (by first | rfl | simp only [nI_add, pk_mul, nI_1, nL0, nL1, nL2, nL3, nL4, nL10, nL30, nL300, nL401]) (b2) ?_
      refine am_goto iX7_take_167 ?_
      exact am_vret iX7_take_302 rfl (⟨rfl, rfl⟩)
    · rw [if_pos (Int32.not_lt.mp hc)]
      refine am_aload_n iX7_take_130 rfl rfl ?_
      refine x_getR 12 hM iX7_take_131 fX7_take_43 rfl rfl rfl ?_
      refine am_iload iX7_take_134 rfl ?_
      refine am_dup2 iX7_take_136 rfl rfl ?_
      refine x_iald (h) hM rfl iX7_take_137 (by first | rfl | simp only [nI_add, pk_mul, nI_1, nL0, nL1, nL2, nL3, nL4, nL10, nL30, nL300, nL401]) (b3) ?_
      refine am_iload iX7_take_138 rfl ?_
      refine am_iadd iX7_take_140 ?_
      refine x_iast (h) hM rfl iX7_take_141 (by first | rfl | simp only [nI_add, pk_mul, nI_1, nL0, nL1, nL2, nL3, nL4, nL10, nL30, nL300, nL401]) (b3) ?_
      refine am_aload_n iX7_take_142 rfl rfl ?_
      refine x_getR 9 hM iX7_take_143 fX7_take_34 rfl rfl rfl ?_
      refine am_iload_n iX7_take_146 rfl rfl ?_
      refine am_dup2 iX7_take_147 rfl rfl ?_
      refine x_iald (i) hM rfl iX7_take_148 (by first | rfl | simp only [nI_add, pk_mul, nI_1, nL0, nL1, nL2, nL3, nL4, nL10, nL30, nL300, nL401]) (b1) ?_
      refine am_iload iX7_take_149 rfl ?_
      refine am_iadd iX7_take_151 ?_
      refine x_iast (i) hM rfl iX7_take_152 (by first | rfl | simp only [nI_add, pk_mul, nI_1, nL0, nL1, nL2, nL3, nL4, nL10, nL30, nL300, nL401]) (b1) ?_
      refine am_goto iX7_take_153 ?_
      exact am_vret iX7_take_302 rfl (⟨rfl, rfl⟩)
  rw [if_neg k1]
  by_cases k2 : kd = 2
  · subst k2
    rw [if_pos rfl]
    refine am_tIn (q := 0) (off := 117) 170 iX7_take_53 (by decide) (by decide) (by decide) (by decide) ?_
    refine am_aload_n iX7_take_170 rfl rfl ?_
    refine x_getR 12 hM iX7_take_171 fX7_take_43 rfl rfl rfl ?_
    refine am_iload iX7_take_174 rfl ?_
    refine x_iald (h) hM rfl iX7_take_176 (by first | rfl | simp only [nI_add, pk_mul, nI_1, nL0, nL1, nL2, nL3, nL4, nL10, nL30, nL300, nL401]) (b3) ?_
    refine am_iload iX7_take_177 rfl ?_
    refine am_icmp_ge iX7_take_179 (fun hc => ?_) (fun hc => ?_)
    · rw [if_neg (Int32.not_lt.mpr hc)]
      refine am_aload_n iX7_take_185 rfl rfl ?_
      refine x_getR 12 hM iX7_take_186 fX7_take_43 rfl rfl rfl ?_
      refine am_iload iX7_take_189 rfl ?_
      refine am_dup2 iX7_take_191 rfl rfl ?_
      refine x_iald (h) hM rfl iX7_take_192 (by first | rfl | simp only [nI_add, pk_mul, nI_1, nL0, nL1, nL2, nL3, nL4, nL10, nL30, nL300, nL401]) (b3) ?_
      refine am_iload iX7_take_193 rfl ?_
      refine am_isub iX7_take_195 ?_
      refine x_iast (h) hM rfl iX7_take_196 (by first | rfl | simp only [nI_add, pk_mul, nI_1, nL0, nL1, nL2, nL3, nL4, nL10, nL30, nL300, nL401]) (b3) ?_
      refine am_aload_n iX7_take_197 rfl rfl ?_
      refine x_getR 9 hM iX7_take_198 fX7_take_34 rfl rfl rfl ?_
      refine am_iload_n iX7_take_201 rfl rfl ?_
      refine am_dup2 iX7_take_202 rfl rfl ?_
      refine x_iald (i) hM rfl iX7_take_203 (by first | rfl | simp only [nI_add, pk_mul, nI_1, nL0, nL1, nL2, nL3, nL4, nL10, nL30, nL300, nL401]) (b1) ?_
      refine am_iload iX7_take_204 rfl ?_
      refine am_isub iX7_take_206 ?_
      refine x_iast (i) hM rfl iX7_take_207 (by first | rfl | simp only [nI_add, pk_mul, nI_1, nL0, nL1, nL2, nL3, nL4, nL10, nL30, nL300, nL401]) (b1) ?_
      refine am_aload_n iX7_take_208 rfl rfl ?_
      refine x_getR 8 hM iX7_take_209 fX7_take_31 rfl rfl rfl ?_
      refine am_iload_n iX7_take_212 rfl rfl ?_
      refine am_dup2 iX7_take_213 rfl rfl ?_
      refine x_iald (i) hM rfl iX7_take_214 (by first | rfl | simp only [nI_add, pk_mul, nI_1, nL0, nL1, nL2, nL3, nL4, nL10, nL30, nL300, nL401]) (b1) ?_
      refine am_iload iX7_take_215 rfl ?_
      refine am_isub iX7_take_217 ?_
      refine x_iast (i) hM rfl iX7_take_218 (by first | rfl | simp only [nI_add, pk_mul, nI_1, nL0, nL1, nL2, nL3, nL4, nL10, nL30, nL300, nL401]) (b1) ?_
      refine am_aload_n iX7_take_219 rfl rfl ?_
      refine x_getR 10 hM iX7_take_220 fX7_take_37 rfl rfl rfl ?_
      refine am_iload_n iX7_take_223 rfl rfl ?_
      refine am_dup2 iX7_take_224 rfl rfl ?_
      refine x_iald (i) hM rfl iX7_take_225 (by first | rfl | simp only [nI_add, pk_mul, nI_1, nL0, nL1, nL2, nL3, nL4, nL10, nL30, nL300, nL401]) (b1) ?_
      refine am_iload iX7_take_226 rfl ?_
      refine am_iadd iX7_take_228 ?_
      refine x_iast (i) hM rfl iX7_take_229 (by first | rfl | simp only [nI_add, pk_mul, nI_1, nL0, nL1, nL2, nL3, nL4, nL10, nL30, nL300, nL401]) (b1) ?_
      refine am_aload_n iX7_take_230 rfl rfl ?_
      refine x_getR 13 hM iX7_take_231 fX7_take_46 rfl rfl rfl ?_
      refine am_iload iX7_take_234 rfl ?_
      refine am_dup2 iX7_take_236 rfl rfl ?_
      refine x_lald (c) hM rfl iX7_take_237 (by first | rfl | simp only [nI_add, pk_mul, nI_1, nL0, nL1, nL2, nL3, nL4, nL10, nL30, nL300, nL401]) (b2) ?_
      refine am_iload iX7_take_238 rfl ?_
      refine am_i2l iX7_take_240 ?_
      refine am_aload_n iX7_take_241 rfl rfl ?_
      refine x_getR 11 hM iX7_take_242 fX7_take_40 rfl rfl rfl ?_
      refine am_iload_n iX7_take_245 rfl rfl ?_
      refine x_iald (i) hM rfl iX7_take_246 (by first | rfl | simp only [nI_add, pk_mul, nI_1, nL0, nL1, nL2, nL3, nL4, nL10, nL30, nL300, nL401]) (b1) ?_
      refine am_i2l iX7_take_247 ?_
      refine am_lmul iX7_take_248 ?_
      refine am_ladd iX7_take_249 ?_
      refine x_last (c) hM rfl iX7_take_250 (by first | rfl | simp only [nI_add, pk_mul, nI_1, nL0, nL1, nL2, nL3, nL4, nL10, nL30, nL300, nL401]) (b2) ?_
      refine am_goto iX7_take_251 ?_
      exact am_vret iX7_take_302 rfl (⟨rfl, rfl⟩)
    · rw [if_pos (Int32.not_le.mp hc)]
      refine am_goto iX7_take_182 ?_
      exact am_vret iX7_take_302 rfl (⟨rfl, rfl⟩)
  rw [if_neg k2]
  by_cases k3 : kd = 3
  · subst k3
    rw [if_pos rfl]
    refine am_tIn (q := 0) (off := 201) 254 iX7_take_53 (by decide) (by decide) (by decide) (by decide) ?_
    refine am_iload iX7_take_254 rfl ?_
    refine am_aload_n iX7_take_256 rfl rfl ?_
    refine x_getR 12 hM iX7_take_257 fX7_take_43 rfl rfl rfl ?_
    refine am_iload iX7_take_260 rfl ?_
    refine x_iald (h) hM rfl iX7_take_262 (by first | rfl | simp only [nI_add, pk_mul, nI_1, nL0, nL1, nL2, nL3, nL4, nL10, nL30, nL300, nL401]) (b3) ?_
    refine am_cS2r iX7_take_263 cX7_take_182 mX7_lesser rfl rfl rfl (x_lesser _ _) ?_
    refine am_istore_7 iX7_take_266 rfl rfl ?_
    refine am_aload_n iX7_take_268 rfl rfl ?_
    refine x_getR 12 hM iX7_take_269 fX7_take_43 rfl rfl rfl ?_
    refine am_iload iX7_take_272 rfl ?_
    refine am_dup2 iX7_take_274 rfl rfl ?_
    refine x_iald (h) hM rfl iX7_take_275 (by first | rfl | simp only [nI_add, pk_mul, nI_1, nL0, nL1, nL2, nL3, nL4, nL10, nL30, nL300, nL401]) (b3) ?_
    refine am_iload iX7_take_276 rfl ?_
    refine am_isub iX7_take_278 ?_
    refine x_iast (h) hM rfl iX7_take_279 (by first | rfl | simp only [nI_add, pk_mul, nI_1, nL0, nL1, nL2, nL3, nL4, nL10, nL30, nL300, nL401]) (b3) ?_
    refine am_aload_n iX7_take_280 rfl rfl ?_
    refine x_getR 9 hM iX7_take_281 fX7_take_34 rfl rfl rfl ?_
    refine am_iload_n iX7_take_284 rfl rfl ?_
    refine am_dup2 iX7_take_285 rfl rfl ?_
    refine x_iald (i) hM rfl iX7_take_286 (by first | rfl | simp only [nI_add, pk_mul, nI_1, nL0, nL1, nL2, nL3, nL4, nL10, nL30, nL300, nL401]) (b1) ?_
    refine am_iload iX7_take_287 rfl ?_
    refine am_isub iX7_take_289 ?_
    refine x_iast (i) hM rfl iX7_take_290 (by first | rfl | simp only [nI_add, pk_mul, nI_1, nL0, nL1, nL2, nL3, nL4, nL10, nL30, nL300, nL401]) (b1) ?_
    refine am_goto iX7_take_291 ?_
    exact am_vret iX7_take_302 rfl (⟨rfl, rfl⟩)
  rw [if_neg k3]
  have z0 := x_neI (n := 0) k0 (by decide)
  have z1 := x_neI (n := 1) k1 (by decide)
  have z2 := x_neI (n := 2) k2 (by decide)
  have z3 := x_neI (n := 3) k3 (by decide)
  refine am_tOut (q := 0) 294 iX7_take_53 (by omega) (by decide) ?_
  refine am_aload_n iX7_take_294 rfl rfl ?_
  refine x_getR 11 hM iX7_take_295 fX7_take_40 rfl rfl rfl ?_
  refine am_iload_n iX7_take_298 rfl rfl ?_
  refine am_iload iX7_take_299 rfl ?_
  refine x_iast (i) hM rfl iX7_take_301 (by first | rfl | simp only [nI_add, pk_mul, nI_1, nL0, nL1, nL2, nL3, nL4, nL10, nL30, nL300, nL401]) (b1) ?_
  exact am_vret iX7_take_302 rfl (⟨rfl, rfl⟩)
def x_fail (X : ms_X) (k : Nat) : ms_X := xU (xU X 23 k 2) 34 k ((xU X 23 k 2).1 0 3)
theorem x_fail_ok (hM : LM m M) {k : Nat} (hk : k < 500) : am_W sc 86 0 [.ref M, .int (nI k)] [] (xm m M X) (am_R1 none (xm m M (x_fail X k))) := by
  refine am_aload_n iX7_fail_0 rfl rfl ?_
  refine x_getR 23 hM iX7_fail_1 fX7_fail_78 rfl rfl rfl ?_
  refine am_iload_n iX7_fail_4 rfl rfl ?_
  refine am_iconst (i := 2) (v := 2) rfl iX7_fail_5 ?_
  refine x_iast (k) hM rfl iX7_fail_6 (by first | rfl | simp only [nI_add, pk_mul, nI_1, nL0, nL1, nL2, nL3, nL4, nL10, nL30, nL300, nL401]) (hk) ?_
  refine am_aload_n iX7_fail_7 rfl rfl ?_
  refine x_getR 34 hM iX7_fail_8 fX7_fail_111 rfl rfl rfl ?_
  refine am_iload_n iX7_fail_11 rfl rfl ?_
  refine am_aload_n iX7_fail_12 rfl rfl ?_
  refine x_getI hM iX7_fail_13 fX7_fail_201 ?_
  refine x_iast (k) hM rfl iX7_fail_16 (by first | rfl | simp only [nI_add, pk_mul, nI_1, nL0, nL1, nL2, nL3, nL4, nL10, nL30, nL300, nL401]) (hk) ?_
  exact am_vret iX7_fail_17 rfl (⟨rfl, rfl⟩)
/-- how many come before k among the first n -/
def x_bef (X : ms_X) (r k : Nat) : Nat → Nat
  | 0 => 0
  | n + 1 => x_bef X r k n + (if 0 < X.1 10 (30 * r + n) - X.1 10 (30 * r + k) ∨ (X.1 10 (30 * r + n) - X.1 10 (30 * r + k) = 0 ∧ n < k) then 1 else 0)
theorem x_bef_le (X : ms_X) (r k : Nat) : ∀ n, x_bef X r k n ≤ n
  | 0 => Nat.le_refl _
  | n + 1 => by
    have := x_bef_le X r k n
    unfold x_bef
    split <;> omega
def x_rnk (X : ms_X) (r : Nat) (a : Int32) : Nat → Int32
  | 0 => 0
  | n + 1 => if nI (x_bef X r n 30) = a then nI n else x_rnk X r a n
set_option maxHeartbeats 1000000 in
theorem x_ranked (hM : LM m M) {r : Nat} (hr : r < 8) (a : Int32) : am_W sc 96 0 [.ref M, .int (nI r), .int a, .retAddr 1, .retAddr 1, .retAddr 1, .retAddr 1, .retAddr 1] [] (xm m M X) (am_R1 (some (.int (x_rnk X r a 30))) (xm m M X)) := by
  have inner : ∀ (k : Nat) (f : Int32), k < 30 → (∀ w : Value, am_W sc 96 78 [.ref M, .int (nI r), .int a, .int f, .int (nI k), .int (nI (x_bef X r k 30)), .int (nI 30), w] [] (xm m M X) (am_R1 (some (.int (x_rnk X r a 30))) (xm m M X))) →
      ∀ d j : Nat, j + d = 30 → ∀ w : Value, am_W sc 96 18 [.ref M, .int (nI r), .int a, .int f, .int (nI k), .int (nI (x_bef X r k j)), .int (nI j), w] [] (xm m M X) (am_R1 (some (.int (x_rnk X r a 30))) (xm m M X)) := by
    intro k f hk hend d
    induction d with
    | zero =>
      intro j hj w
      have e : j = 30 := by omega
      subst e
      refine am_iload iX7_ranked_18 rfl ?_
      refine am_bipush (i := 30) (v := 30) rfl iX7_ranked_20 ?_
      refine am_icmp_ge iX7_ranked_22 (fun _ => ?_) (fun hc => absurd (by decide) hc)
      exact hend w
    | succ d ih =>
      intro j hj w
      refine am_iload iX7_ranked_18 rfl ?_
      refine am_bipush (i := 30) (v := 30) rfl iX7_ranked_20 ?_
      refine am_icmp_ge iX7_ranked_22 (fun hc => absurd hc (fun q => absurd ((nI_leI (a := 30) (b := j) (by omega) (by omega)).mp q) (by omega))) (fun _ => ?_)
      refine am_aload_n iX7_ranked_25 rfl rfl ?_
      refine x_getR 10 hM iX7_ranked_26 fX7_ranked_37 rfl rfl rfl ?_
      refine am_bipush (i := 30) (v := 30) rfl iX7_ranked_29 ?_
      refine am_iload_n iX7_ranked_31 rfl rfl ?_
      refine am_imul iX7_ranked_32 ?_
      refine am_iload iX7_ranked_33 rfl ?_
      refine am_iadd iX7_ranked_35 ?_
      refine x_iald (30 * r + j) hM rfl iX7_ranked_36 (by first | rfl | simp only [nI_add, pk_mul, nI_1, nL0, nL1, nL2, nL3, nL4, nL10, nL30, nL300, nL401]) ((show 30 * r + j < 240 by omega)) ?_
      refine am_aload_n iX7_ranked_37 rfl rfl ?_
      refine x_getR 10 hM iX7_ranked_38 fX7_ranked_37 rfl rfl rfl ?_
      refine am_bipush (i := 30) (v := 30) rfl iX7_ranked_41 ?_
      refine am_iload_n iX7_ranked_43 rfl rfl ?_
      refine am_imul iX7_ranked_44 ?_
      refine am_iload iX7_ranked_45 rfl ?_
      refine am_iadd iX7_ranked_47 ?_
      refine x_iald (30 * r + k) hM rfl iX7_ranked_48 (by first | rfl | simp only [nI_add, pk_mul, nI_1, nL0, nL1, nL2, nL3, nL4, nL10, nL30, nL300, nL401]) ((show 30 * r + k < 240 by omega)) ?_
      refine am_isub iX7_ranked_49 ?_
      refine am_istore_7 iX7_ranked_50 rfl rfl ?_
      refine am_iload iX7_ranked_52 rfl ?_
      have st : ∀ b : Nat, x_bef X r k (j + 1) = x_bef X r k j + b → b ≤ 1 → ∀ pc : Nat, (b = 1 → pc = 69) → (b = 0 → pc = 72) → am_W sc 96 pc [.ref M, .int (nI r), .int a, .int f, .int (nI k), .int (nI (x_bef X r k j)), .int (nI j), .int (X.1 10 (30 * r + j) - X.1 10 (30 * r + k))] [] (xm m M X) (am_R1 (some (.int (x_rnk X r a 30))) (xm m M X)) := by
        intro b hb hb1 pc h1 h0
        rcases (show b = 0 ∨ b = 1 by omega) with rfl | rfl
        · rw [h0 rfl]
          refine am_iinc_6 1 iX7_ranked_72 rfl rfl rfl ?_
          refine am_goto iX7_ranked_75 ?_
          rw [nI_1]
          have := ih (j + 1) (by omega) (.int (X.1 10 (30 * r + j) - X.1 10 (30 * r + k)))
          rw [hb] at this
          exact this
        · rw [h1 rfl]
          refine am_iinc_5 1 iX7_ranked_69 rfl rfl rfl ?_
          refine am_iinc_6 1 iX7_ranked_72 rfl rfl rfl ?_
          refine am_goto iX7_ranked_75 ?_
          rw [nI_1, nI_1]
          have := ih (j + 1) (by omega) (.int (X.1 10 (30 * r + j) - X.1 10 (30 * r + k)))
          rw [hb] at this
          exact this
      have e1 : x_bef X r k (j + 1) = x_bef X r k j + (if 0 < X.1 10 (30 * r + j) - X.1 10 (30 * r + k) ∨ (X.1 10 (30 * r + j) - X.1 10 (30 * r + k) = 0 ∧ j < k) then 1 else 0) := rfl
      refine am_if_gt iX7_ranked_54 (fun h1 => ?_) (fun h1 => ?_)
      · rw [if_pos (Or.inl h1)] at e1
        exact st 1 e1 (by decide) 69 (fun _ => rfl) (fun q => by cases q)
      · refine am_iload iX7_ranked_57 rfl ?_
        refine am_if_ne iX7_ranked_59 (fun h2 => ?_) (fun h2 => ?_)
        · rw [if_neg (fun q => q.elim h1 (fun q => h2 q.1))] at e1
          exact st 0 e1 (by decide) 72 (fun q => by cases q) (fun _ => rfl)
        · refine am_iload iX7_ranked_62 rfl ?_
          refine am_iload iX7_ranked_64 rfl ?_
          refine am_icmp_ge iX7_ranked_66 (fun h3 => ?_) (fun h3 => ?_)
          · have h4 : ¬ j < k := fun q => absurd ((nI_leI (by omega) (by omega)).mp h3) (by omega)
            rw [if_neg (fun q => q.elim h1 (fun q => h4 q.2))] at e1
            exact st 0 e1 (by decide) 72 (fun q => by cases q) (fun _ => rfl)
          · have h4 : j < k := Nat.lt_of_not_le (fun q => h3 ((nI_leI (by omega) (by omega)).mpr q))
            rw [if_pos (Or.inr ⟨h2, h4⟩)] at e1
            exact st 1 e1 (by decide) 69 (fun _ => rfl) (fun q => by cases q)
  have outer : ∀ d k : Nat, k + d = 30 → ∀ w5 w6 w7 : Value, am_W sc 96 5 [.ref M, .int (nI r), .int a, .int (x_rnk X r a k), .int (nI k), w5, w6, w7] [] (xm m M X) (am_R1 (some (.int (x_rnk X r a 30))) (xm m M X)) := by
    intro d
    induction d with
    | zero =>
      intro k hk w5 w6 w7
      have e : k = 30 := by omega
      subst e
      refine am_iload iX7_ranked_5 rfl ?_
      refine am_bipush (i := 30) (v := 30) rfl iX7_ranked_7 ?_
      refine am_icmp_ge iX7_ranked_9 (fun _ => ?_) (fun hc => absurd (by decide) hc)
      refine am_iload_n iX7_ranked_93 rfl rfl ?_
      exact am_iret iX7_ranked_94 rfl (⟨rfl, rfl⟩)
    | succ d ih =>
      intro k hk w5 w6 w7
      refine am_iload iX7_ranked_5 rfl ?_
      refine am_bipush (i := 30) (v := 30) rfl iX7_ranked_7 ?_
      refine am_icmp_ge iX7_ranked_9 (fun hc => absurd hc (fun q => absurd ((nI_leI (a := 30) (b := k) (by omega) (by omega)).mp q) (by omega))) (fun _ => ?_)
      refine am_iconst (i := 0) (v := 0) rfl iX7_ranked_12 ?_
      refine am_istore_5 iX7_ranked_13 rfl rfl ?_
      refine am_iconst (i := 0) (v := 0) rfl iX7_ranked_15 ?_
      refine am_istore_6 iX7_ranked_16 rfl rfl ?_
      refine inner k _ (by omega) (fun w => ?_) 30 0 (by omega) w7
      refine am_iload iX7_ranked_78 rfl ?_
      refine am_iload_n iX7_ranked_80 rfl rfl ?_
      have e1 : x_rnk X r a (k + 1) = if nI (x_bef X r k 30) = a then nI k else x_rnk X r a k := rfl
      refine am_icmp_ne iX7_ranked_81 (fun hc => ?_) (fun hc => ?_)
      · rw [if_neg hc] at e1
        refine am_iinc_4 1 iX7_ranked_87 rfl rfl rfl ?_
        refine am_goto iX7_ranked_90 ?_
        rw [nI_1, ← e1]
        exact ih (k + 1) (by omega) _ _ _
      · rw [if_pos hc] at e1
        refine am_iload iX7_ranked_84 rfl ?_
        refine am_istore_n_3 iX7_ranked_86 rfl rfl ?_
        refine am_iinc_4 1 iX7_ranked_87 rfl rfl rfl ?_
        refine am_goto iX7_ranked_90 ?_
        rw [nI_1]
        have := ih (k + 1) (by omega) (.int (nI (x_bef X r k 30))) (.int (nI 30)) w
        rw [e1] at this
        exact this
  refine am_iconst (i := 0) (v := 0) rfl iX7_ranked_0 ?_
  refine am_istore_n_3 iX7_ranked_1 rfl rfl ?_
  refine am_iconst (i := 0) (v := 0) rfl iX7_ranked_2 ?_
  refine am_istore_4 iX7_ranked_3 rfl rfl ?_
  exact outer 30 0 rfl _ _ _
end
