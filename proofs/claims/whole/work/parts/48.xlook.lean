/-! the reference: an answer, a look at the reads that wait, a step -/
section
variable {sc : Nat × (Nat → Int32)} {m : am_Mem} {M : Nat} {X : ms_X} {P R N : Nat}
def x_see (X : ms_X) (r s : Nat) : Nat → ms_X
  | 0 => X
  | n + 1 => xU (x_see X r s n) 22 (3 * s + n) (if (x_see X r s n).1 22 (3 * s + n) ≤ (x_see X r s n).1 15 (3 * r + n) then (x_see X r s n).1 15 (3 * r + n) else (x_see X r s n).1 22 (3 * s + n))
theorem x_see_o (X : ms_X) (r s : Nat) {a j : Nat} (h : a ≠ 22) : ∀ n, (x_see X r s n).1 a j = X.1 a j
  | 0 => rfl
  | n + 1 => (xU_o _ _ h).trans (x_see_o X r s h n)
theorem x_see_J (X : ms_X) (r s : Nat) : ∀ n, (x_see X r s n).2 = X.2
  | 0 => rfl
  | n + 1 => x_see_J X r s n
def x_ans0 (X : ms_X) (P r k : Nat) : ms_X :=
  let B := xU (xU X 23 k 1) 31 k (nI r)
  let C := xV B 32 k (x_tell B P r (B.1 29 k) (B.1 30 k))
  let D := xV C 33 k (x_tok (C.1 15 (3 * r)) (C.1 15 (3 * r + 1)) (C.1 15 (3 * r + 2)))
  xU D 34 k (D.1 0 3)
def x_ans (X : ms_X) (P r k : Nat) : ms_X := x_see (x_ans0 X P r k) r (nt (X.1 24 k)) P
theorem x_ans0_o (X : ms_X) (P r k : Nat) {a j : Nat} (h1 : a ≠ 23) (h2 : a ≠ 31) (h3 : a ≠ 34) : (x_ans0 X P r k).1 a j = X.1 a j := by
  unfold x_ans0
  rw [xU_o _ _ h3, xV_I, xV_I, xU_o _ _ h2, xU_o _ _ h1]
theorem x_ans_o (X : ms_X) (P r k : Nat) {a j : Nat} (h0 : a ≠ 22) (h1 : a ≠ 23) (h2 : a ≠ 31) (h3 : a ≠ 34) : (x_ans X P r k).1 a j = X.1 a j := by
  unfold x_ans
  rw [x_see_o _ _ _ h0, x_ans0_o _ _ _ _ h1 h2 h3]
theorem x_PR.cg {Y : ms_X} (h : x_PR X P R) (h0 : Y.1 0 0 = X.1 0 0) (h1 : Y.1 0 1 = X.1 0 1) : x_PR Y P R := by
  unfold x_PR at h ⊢
  rw [h0, h1]
  exact h
set_option maxHeartbeats 1000000 in
theorem x_answer_ok (hM : LM m M) (hP : x_PR X P R) {r k : Nat} (hr : r < 4) (hk : k < 500) (hs : x_ix (X.1 24 k) 8) (hq : x_qI (X.1 29 k) (X.1 30 k)) :
    am_W sc 98 0 [.ref M, .int (nI r), .int (nI k), .retAddr 1] [] (xm m M X) (am_R1 none (xm m M (x_ans X P r k))) := by
  obtain ⟨s, hs1, hst, hs2⟩ := x_ix_ex hs
  have hP4 := hP.2.2.2.1
  unfold x_ans
  rw [hst]
  have q3 : (3 : Int32) * nI r + 1 = nI (3 * r + 1) := by simp only [nI_1, pk_mul, nL3]
  have q4 : (3 : Int32) * nI r + 2 = nI (3 * r + 2) := by simp only [nI_add, pk_mul, nL3, nL2]
  have key : ∀ d p : Nat, p + d = P → am_W sc 98 86 [.ref M, .int (nI r), .int (nI k), .int (nI p)] [] (xm m M (x_see (x_ans0 X P r k) r s p)) (am_R1 none (xm m M (x_see (x_ans0 X P r k) r s P))) := by
    intro d
    induction d with
    | zero =>
      intro p hp
      have e : p = P := by omega
      subst e
      refine am_iload_n iX7_answer_86 rfl rfl ?_
      refine am_aload_n iX7_answer_87 rfl rfl ?_
      refine x_getI hM iX7_answer_88 fX7_answer_114 ?_
      rw [x_see_o _ _ _ (by decide), x_ans0_o _ _ _ _ (by decide) (by decide) (by decide), hP.1]
      refine am_icmp_ge iX7_answer_91 (fun _ => ?_) (fun hc => absurd (nI_le (Nat.le_refl _) (by omega)) hc)
      exact am_vret iX7_answer_143 rfl (⟨rfl, rfl⟩)
    | succ d ih =>
      intro p hp
      refine am_iload_n iX7_answer_86 rfl rfl ?_
      refine am_aload_n iX7_answer_87 rfl rfl ?_
      refine x_getI hM iX7_answer_88 fX7_answer_114 ?_
      rw [x_see_o _ _ _ (by decide), x_ans0_o _ _ _ _ (by decide) (by decide) (by decide), hP.1]
      refine am_icmp_ge iX7_answer_91 (fun hc => absurd hc (fun q => absurd ((nI_leI (by omega) (by omega)).mp q) (by omega))) (fun _ => ?_)
      have e24 : (x_see (x_ans0 X P r k) r s p).1 24 k = nI s := by rw [x_see_o _ _ _ (by decide), x_ans0_o _ _ _ _ (by decide) (by decide) (by decide), hs2]
      refine am_aload_n iX7_answer_94 rfl rfl ?_
      refine x_getR 22 hM iX7_answer_95 fX7_answer_75 rfl rfl rfl ?_
      refine am_iconst (i := 3) (v := 3) rfl iX7_answer_98 ?_
      refine am_aload_n iX7_answer_99 rfl rfl ?_
      refine x_getR 24 hM iX7_answer_100 fX7_answer_81 rfl rfl rfl ?_
      refine am_iload_n iX7_answer_103 rfl rfl ?_
      refine x_iald (k) hM rfl iX7_answer_104 (by first | rfl | simp only [nI_add, pk_mul, nI_1, nL0, nL1, nL2, nL3, nL4, nL10, nL30, nL300, nL401]) (hk) ?_
      rw [e24]
      refine am_imul iX7_answer_105 ?_
      refine am_iload_n iX7_answer_106 rfl rfl ?_
      refine am_iadd iX7_answer_107 ?_
      refine am_aload_n iX7_answer_108 rfl rfl ?_
      refine x_getR 22 hM iX7_answer_109 fX7_answer_75 rfl rfl rfl ?_
      refine am_iconst (i := 3) (v := 3) rfl iX7_answer_112 ?_
      refine am_aload_n iX7_answer_113 rfl rfl ?_
      refine x_getR 24 hM iX7_answer_114 fX7_answer_81 rfl rfl rfl ?_
      refine am_iload_n iX7_answer_117 rfl rfl ?_
      refine x_iald (k) hM rfl iX7_answer_118 (by first | rfl | simp only [nI_add, pk_mul, nI_1, nL0, nL1, nL2, nL3, nL4, nL10, nL30, nL300, nL401]) (hk) ?_
      rw [e24]
      refine am_imul iX7_answer_119 ?_
      refine am_iload_n iX7_answer_120 rfl rfl ?_
      refine am_iadd iX7_answer_121 ?_
      refine x_iald (3 * s + p) hM rfl iX7_answer_122 (by first | rfl | simp only [nI_add, pk_mul, nI_1, nL0, nL1, nL2, nL3, nL4, nL10, nL30, nL300, nL401]) ((show 3 * s + p < 24 by omega)) ?_
      refine am_aload_n iX7_answer_123 rfl rfl ?_
      refine x_getR 15 hM iX7_answer_124 fX7_answer_53 rfl rfl rfl ?_
      refine am_iconst (i := 3) (v := 3) rfl iX7_answer_127 ?_
      refine am_iload_n iX7_answer_128 rfl rfl ?_
      refine am_imul iX7_answer_129 ?_
      refine am_iload_n iX7_answer_130 rfl rfl ?_
      refine am_iadd iX7_answer_131 ?_
      refine x_iald (3 * r + p) hM rfl iX7_answer_132 (by first | rfl | simp only [nI_add, pk_mul, nI_1, nL0, nL1, nL2, nL3, nL4, nL10, nL30, nL300, nL401]) ((show 3 * r + p < 24 by omega)) ?_
      refine am_cS2r iX7_answer_133 cX7_answer_173 mX7_greater rfl rfl rfl (x_greater _ _) ?_
      refine x_iast (3 * s + p) hM rfl iX7_answer_136 (by first | rfl | simp only [nI_add, pk_mul, nI_1, nL0, nL1, nL2, nL3, nL4, nL10, nL30, nL300, nL401]) ((show 3 * s + p < 24 by omega)) ?_
      refine am_iinc_3 1 iX7_answer_137 rfl rfl rfl ?_
      refine am_goto iX7_answer_140 ?_
      rw [nI_1]
      exact ih (p + 1) (by omega)
  refine am_aload_n iX7_answer_0 rfl rfl ?_
  refine x_getR 23 hM iX7_answer_1 fX7_answer_78 rfl rfl rfl ?_
  refine am_iload_n iX7_answer_4 rfl rfl ?_
  refine am_iconst (i := 1) (v := 1) rfl iX7_answer_5 ?_
  refine x_iast (k) hM rfl iX7_answer_6 (by first | rfl | simp only [nI_add, pk_mul, nI_1, nL0, nL1, nL2, nL3, nL4, nL10, nL30, nL300, nL401]) (hk) ?_
  refine am_aload_n iX7_answer_7 rfl rfl ?_
  refine x_getR 31 hM iX7_answer_8 fX7_answer_102 rfl rfl rfl ?_
  refine am_iload_n iX7_answer_11 rfl rfl ?_
  refine am_iload_n iX7_answer_12 rfl rfl ?_
  refine x_iast (k) hM rfl iX7_answer_13 (by first | rfl | simp only [nI_add, pk_mul, nI_1, nL0, nL1, nL2, nL3, nL4, nL10, nL30, nL300, nL401]) (hk) ?_
  refine am_aload_n iX7_answer_14 rfl rfl ?_
  refine x_getR 32 hM iX7_answer_15 fX7_answer_105 rfl rfl rfl ?_
  refine am_iload_n iX7_answer_18 rfl rfl ?_
  refine am_aload_n iX7_answer_19 rfl rfl ?_
  refine am_iload_n iX7_answer_20 rfl rfl ?_
  refine am_aload_n iX7_answer_21 rfl rfl ?_
  refine x_getR 29 hM iX7_answer_22 fX7_answer_96 rfl rfl rfl ?_
  refine am_iload_n iX7_answer_25 rfl rfl ?_
  refine x_iald (k) hM rfl iX7_answer_26 (by first | rfl | simp only [nI_add, pk_mul, nI_1, nL0, nL1, nL2, nL3, nL4, nL10, nL30, nL300, nL401]) (hk) ?_
  refine am_aload_n iX7_answer_27 rfl rfl ?_
  refine x_getR 30 hM iX7_answer_28 fX7_answer_99 rfl rfl rfl ?_
  refine am_iload_n iX7_answer_31 rfl rfl ?_
  refine x_iald (k) hM rfl iX7_answer_32 (by first | rfl | simp only [nI_add, pk_mul, nI_1, nL0, nL1, nL2, nL3, nL4, nL10, nL30, nL300, nL401]) (hk) ?_
  refine am_cV3r iX7_answer_33 cX7_answer_228 mX7_tell hM.1 rfl rfl rfl (x_tell_ok (X := xU (xU X 23 k 1) 31 k (nI r)) (r := r) hM (P := P) (R := R) hP (by omega) hq) ?_
  refine x_last (k) hM rfl iX7_answer_36 (by first | rfl | simp only [nI_add, pk_mul, nI_1, nL0, nL1, nL2, nL3, nL4, nL10, nL30, nL300, nL401]) (hk) ?_
  refine am_aload_n iX7_answer_37 rfl rfl ?_
  refine x_getR 33 hM iX7_answer_38 fX7_answer_108 rfl rfl rfl ?_
  refine am_iload_n iX7_answer_41 rfl rfl ?_
  refine am_aload_n iX7_answer_42 rfl rfl ?_
  refine x_getR 15 hM iX7_answer_43 fX7_answer_53 rfl rfl rfl ?_
  refine am_iconst (i := 3) (v := 3) rfl iX7_answer_46 ?_
  refine am_iload_n iX7_answer_47 rfl rfl ?_
  refine am_imul iX7_answer_48 ?_
  refine x_iald (3 * r) hM rfl iX7_answer_49 (by first | rfl | simp only [nI_add, pk_mul, nI_1, nL0, nL1, nL2, nL3, nL4, nL10, nL30, nL300, nL401]) ((show 3 * r < 24 by omega)) ?_
  refine am_aload_n iX7_answer_50 rfl rfl ?_
  refine x_getR 15 hM iX7_answer_51 fX7_answer_53 rfl rfl rfl ?_
  refine am_iconst (i := 3) (v := 3) rfl iX7_answer_54 ?_
  refine am_iload_n iX7_answer_55 rfl rfl ?_
  refine am_imul iX7_answer_56 ?_
  refine am_iconst (i := 1) (v := 1) rfl iX7_answer_57 ?_
  refine am_iadd iX7_answer_58 ?_
  refine x_iald (3 * r + 1) hM rfl iX7_answer_59 (by first | rfl | simp only [nI_add, pk_mul, nI_1, nL0, nL1, nL2, nL3, nL4, nL10, nL30, nL300, nL401]) ((show 3 * r + 1 < 24 by omega)) ?_
  refine am_aload_n iX7_answer_60 rfl rfl ?_
  refine x_getR 15 hM iX7_answer_61 fX7_answer_53 rfl rfl rfl ?_
  refine am_iconst (i := 3) (v := 3) rfl iX7_answer_64 ?_
  refine am_iload_n iX7_answer_65 rfl rfl ?_
  refine am_imul iX7_answer_66 ?_
  refine am_iconst (i := 2) (v := 2) rfl iX7_answer_67 ?_
  refine am_iadd iX7_answer_68 ?_
  refine x_iald (3 * r + 2) hM rfl iX7_answer_69 (by first | rfl | simp only [nI_add, pk_mul, nI_1, nL0, nL1, nL2, nL3, nL4, nL10, nL30, nL300, nL401]) ((show 3 * r + 2 < 24 by omega)) ?_
  refine am_cS3r iX7_answer_70 cX7_answer_177 mX7_tokenOf rfl rfl rfl (x_tokenOf _ _ _) ?_
  refine x_last (k) hM rfl iX7_answer_73 (by first | rfl | simp only [nI_add, pk_mul, nI_1, nL0, nL1, nL2, nL3, nL4, nL10, nL30, nL300, nL401]) (hk) ?_
  refine am_aload_n iX7_answer_74 rfl rfl ?_
  refine x_getR 34 hM iX7_answer_75 fX7_answer_111 rfl rfl rfl ?_
  refine am_iload_n iX7_answer_78 rfl rfl ?_
  refine am_aload_n iX7_answer_79 rfl rfl ?_
  refine x_getI hM iX7_answer_80 fX7_answer_201 ?_
  refine x_iast (k) hM rfl iX7_answer_83 (by first | rfl | simp only [nI_add, pk_mul, nI_1, nL0, nL1, nL2, nL3, nL4, nL10, nL30, nL300, nL401]) (hk) ?_
  refine am_iconst (i := 0) (v := 0) rfl iX7_answer_84 ?_
  refine am_istore_n_3 iX7_answer_85 rfl rfl ?_
  exact key P 0 (by omega)
/-! a look -/
def x_Rd (X : ms_X) (N : Nat) : Prop := X.1 0 26 = nI N ∧ N ≤ 500 ∧ ∀ k, k < N → x_ix (X.1 24 k) 8 ∧ x_qI (X.1 29 k) (X.1 30 k)
def x_lookN (X : ms_X) (P r : Nat) : Nat → ms_X
  | 0 => X
  | k + 1 => if (x_lookN X P r k).1 23 k = 0 ∧ x_may (x_lookN X P r k) P r k = true then x_ans (x_lookN X P r k) P r k else x_lookN X P r k
theorem x_look_o (X : ms_X) (P r : Nat) {a j : Nat} (h0 : a ≠ 22) (h1 : a ≠ 23) (h2 : a ≠ 31) (h3 : a ≠ 34) : ∀ n, (x_lookN X P r n).1 a j = X.1 a j
  | 0 => rfl
  | n + 1 => by
    unfold x_lookN
    split
    · rw [x_ans_o _ _ _ _ h0 h1 h2 h3]; exact x_look_o X P r h0 h1 h2 h3 n
    · exact x_look_o X P r h0 h1 h2 h3 n
theorem x_look_ok (hM : LM m M) (hP : x_PR X P R) (hN : x_Rd X N) {r : Nat} (hr : r < 4) : am_W sc 99 0 [.ref M, .int (nI r), .retAddr 1] [] (xm m M X) (am_R1 none (xm m M (x_lookN X P r N))) := by
  have hN2 := hN.2.1
  have key : ∀ d k : Nat, k + d = N → am_W sc 99 2 [.ref M, .int (nI r), .int (nI k)] [] (xm m M (x_lookN X P r k)) (am_R1 none (xm m M (x_lookN X P r N))) := by
    intro d
    induction d with
    | zero =>
      intro k hk
      have e : k = N := by omega
      subst e
      refine am_iload_n iX7_look_2 rfl rfl ?_
      refine am_aload_n iX7_look_3 rfl rfl ?_
      refine x_getI hM iX7_look_4 fX7_look_204 ?_
      rw [x_look_o _ _ _ (by decide) (by decide) (by decide) (by decide), hN.1]
      refine am_icmp_ge iX7_look_7 (fun _ => ?_) (fun hc => absurd (nI_le (Nat.le_refl _) (by omega)) hc)
      exact am_vret iX7_look_40 rfl (⟨rfl, rfl⟩)
    | succ d ih =>
      intro k hk
      refine am_iload_n iX7_look_2 rfl rfl ?_
      refine am_aload_n iX7_look_3 rfl rfl ?_
      refine x_getI hM iX7_look_4 fX7_look_204 ?_
      rw [x_look_o _ _ _ (by decide) (by decide) (by decide) (by decide), hN.1]
      refine am_icmp_ge iX7_look_7 (fun hc => absurd hc (fun q => absurd ((nI_leI (by omega) (by omega)).mp q) (by omega))) (fun _ => ?_)
      have hk5 : k < 500 := by omega
      have e1 : x_lookN X P r (k + 1) = if (x_lookN X P r k).1 23 k = 0 ∧ x_may (x_lookN X P r k) P r k = true then x_ans (x_lookN X P r k) P r k else x_lookN X P r k := rfl
      have hPk : x_PR (x_lookN X P r k) P R := hP.cg (x_look_o _ _ _ (by decide) (by decide) (by decide) (by decide) _) (x_look_o _ _ _ (by decide) (by decide) (by decide) (by decide) _)
      have hsk : x_ix ((x_lookN X P r k).1 24 k) 8 := by rw [x_look_o _ _ _ (by decide) (by decide) (by decide) (by decide)]; exact (hN.2.2 k (by omega)).1
      have hqk : x_qI ((x_lookN X P r k).1 29 k) ((x_lookN X P r k).1 30 k) := by rw [x_look_o _ _ _ (by decide) (by decide) (by decide) (by decide), x_look_o _ _ _ (by decide) (by decide) (by decide) (by decide)]; exact (hN.2.2 k (by omega)).2
      refine am_aload_n iX7_look_10 rfl rfl ?_
      refine x_getR 23 hM iX7_look_11 fX7_look_78 rfl rfl rfl ?_
      refine am_iload_n iX7_look_14 rfl rfl ?_
      refine x_iald (k) hM rfl iX7_look_15 (by first | rfl | simp only [nI_add, pk_mul, nI_1, nL0, nL1, nL2, nL3, nL4, nL10, nL30, nL300, nL401]) (hk5) ?_
      refine am_if_ne iX7_look_16 (fun h1 => ?_) (fun h1 => ?_)
      · rw [if_neg (fun q => h1 q.1)] at e1
        refine am_iinc_2 1 iX7_look_34 rfl rfl rfl ?_
        refine am_goto iX7_look_37 ?_
        rw [nI_1, ← e1]
        exact ih (k + 1) (by omega)
      · refine am_aload_n iX7_look_19 rfl rfl ?_
        refine am_iload_n iX7_look_20 rfl rfl ?_
        refine am_iload_n iX7_look_21 rfl rfl ?_
        refine am_cV2r iX7_look_22 cX7_look_231 mX7_may hM.1 rfl rfl rfl (x_may_ok hM hPk hr hk5 hsk) ?_
        cases c1 : x_may (x_lookN X P r k) P r k
        · refine am_if_eq iX7_look_25 (fun _ => ?_) (fun hc => absurd (by decide) hc)
          rw [if_neg (fun q => by rw [c1] at q; cases q.2)] at e1
          refine am_iinc_2 1 iX7_look_34 rfl rfl rfl ?_
          refine am_goto iX7_look_37 ?_
          rw [nI_1, ← e1]
          exact ih (k + 1) (by omega)
        · refine am_if_eq iX7_look_25 (fun hc => absurd hc (by decide)) (fun _ => ?_)
          refine am_aload_n iX7_look_28 rfl rfl ?_
          refine am_iload_n iX7_look_29 rfl rfl ?_
          refine am_iload_n iX7_look_30 rfl rfl ?_
          refine am_cV2v iX7_look_31 cX7_look_235 mX7_answer hM.1 rfl rfl rfl (x_answer_ok hM hPk hr hk5 hsk hqk) ?_
          rw [if_pos ⟨h1, c1⟩] at e1
          refine am_iinc_2 1 iX7_look_34 rfl rfl rfl ?_
          refine am_goto iX7_look_37 ?_
          rw [nI_1, ← e1]
          exact ih (k + 1) (by omega)
  refine am_iconst (i := 0) (v := 0) rfl iX7_look_0 ?_
  refine am_istore_n_2 iX7_look_1 rfl rfl ?_
  exact key N 0 (by omega)
def x_wtN (X : ms_X) (v : Int32) : Nat → Nat
  | 0 => 0
  | k + 1 => x_wtN X v k + (if X.1 23 k = v then 1 else 0)
theorem x_wtN_le (X : ms_X) (v : Int32) : ∀ n, x_wtN X v n ≤ n
  | 0 => Nat.le_refl _
  | n + 1 => by
    have := x_wtN_le X v n
    unfold x_wtN
    split <;> omega
theorem x_waiting_ok (hM : LM m M) (hN : x_Rd X N) : am_W sc 100 0 [.ref M, .retAddr 1, .retAddr 1] [] (xm m M X) (am_R1 (some (.int (nI (x_wtN X 0 N)))) (xm m M X)) := by
  have hN2 := hN.2.1
  have key : ∀ d k : Nat, k + d = N → am_W sc 100 4 [.ref M, .int (nI (x_wtN X 0 k)), .int (nI k)] [] (xm m M X) (am_R1 (some (.int (nI (x_wtN X 0 N)))) (xm m M X)) := by
    intro d
    induction d with
    | zero =>
      intro k hk
      have e : k = N := by omega
      subst e
      refine am_iload_n iX7_waiting_4 rfl rfl ?_
      refine am_aload_n iX7_waiting_5 rfl rfl ?_
      refine x_getI hM iX7_waiting_6 fX7_waiting_204 ?_
      rw [hN.1]
      refine am_icmp_ge iX7_waiting_9 (fun _ => ?_) (fun hc => absurd (nI_le (Nat.le_refl _) (by omega)) hc)
      refine am_iload_n iX7_waiting_35 rfl rfl ?_
      exact am_iret iX7_waiting_36 rfl (⟨rfl, rfl⟩)
    | succ d ih =>
      intro k hk
      refine am_iload_n iX7_waiting_4 rfl rfl ?_
      refine am_aload_n iX7_waiting_5 rfl rfl ?_
      refine x_getI hM iX7_waiting_6 fX7_waiting_204 ?_
      rw [hN.1]
      refine am_icmp_ge iX7_waiting_9 (fun hc => absurd hc (fun q => absurd ((nI_leI (by omega) (by omega)).mp q) (by omega))) (fun _ => ?_)
      have e1 : x_wtN X 0 (k + 1) = x_wtN X 0 k + (if X.1 23 k = 0 then 1 else 0) := rfl
      refine am_iload_n iX7_waiting_12 rfl rfl ?_
      refine am_aload_n iX7_waiting_13 rfl rfl ?_
      refine x_getR 23 hM iX7_waiting_14 fX7_waiting_78 rfl rfl rfl ?_
      refine am_iload_n iX7_waiting_17 rfl rfl ?_
      refine x_iald (k) hM rfl iX7_waiting_18 (by first | rfl | simp only [nI_add, pk_mul, nI_1, nL0, nL1, nL2, nL3, nL4, nL10, nL30, nL300, nL401]) ((show k < 500 by omega)) ?_
      refine am_if_ne iX7_waiting_19 (fun h1 => ?_) (fun h1 => ?_)
      · rw [if_neg h1] at e1
        refine am_iconst (i := 0) (v := 0) rfl iX7_waiting_26 ?_
        refine am_iadd iX7_waiting_27 ?_
        refine am_istore_n_1 iX7_waiting_28 rfl rfl ?_
        refine am_iinc_2 1 iX7_waiting_29 rfl rfl rfl ?_
        refine am_goto iX7_waiting_32 ?_
        rw [Int32.add_zero, nI_1]
        have := ih (k + 1) (by omega)
        rw [e1] at this
        exact this
      · rw [if_pos h1] at e1
        refine am_iconst (i := 1) (v := 1) rfl iX7_waiting_22 ?_
        refine am_goto iX7_waiting_23 ?_
        refine am_iadd iX7_waiting_27 ?_
        refine am_istore_n_1 iX7_waiting_28 rfl rfl ?_
        refine am_iinc_2 1 iX7_waiting_29 rfl rfl rfl ?_
        refine am_goto iX7_waiting_32 ?_
        rw [nI_1, nI_1, ← e1]
        exact ih (k + 1) (by omega)
  refine am_iconst (i := 0) (v := 0) rfl iX7_waiting_0 ?_
  refine am_istore_n_1 iX7_waiting_1 rfl rfl ?_
  refine am_iconst (i := 0) (v := 0) rfl iX7_waiting_2 ?_
  refine am_istore_n_2 iX7_waiting_3 rfl rfl ?_
  exact key N 0 (by omega)
end
