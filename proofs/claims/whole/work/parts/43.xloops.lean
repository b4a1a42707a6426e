/-! the reference: tests and loops over partitions -/
theorem x_b_and (a b : Bool) : x_b a &&& x_b b = x_b (a && b) := by cases a <;> cases b <;> rfl
theorem x_b_and1 (a : Bool) : x_b a &&& 1 = x_b (a && true) := by cases a <;> rfl
theorem x_b_and0 (a : Bool) : x_b a &&& 0 = x_b (a && false) := by cases a <;> rfl
/-- the numbers of partitions and replicas -/
def x_PR (X : ms_X) (P R : Nat) : Prop := X.1 0 0 = nI P ∧ X.1 0 1 = nI R ∧ 1 ≤ P ∧ P ≤ 3 ∧ 1 ≤ R ∧ R ≤ 4
def x_cov (X : ms_X) (o f r : Nat) : Nat → Bool
  | 0 => true
  | n + 1 => x_cov X o f r n && decide (X.1 o (f + n) ≤ X.1 15 (3 * r + n))
theorem x_covers {sc : Nat × (Nat → Int32)} {m : am_Mem} {M : Nat} {X : ms_X} {P R : Nat} (hM : LM m M) (hP : x_PR X P R) (o f r : Nat) (ho : xo o 11 = true) (hf : f + 3 ≤ xl o) (hr : r < 8) :
    am_W sc 81 0 [.ref M, .ref (M + o), .int (nI f), .int (nI r), .retAddr 1, .retAddr 1] [] (xm m M X) (am_R1 (some (.int (x_b (x_cov X o f r P)))) (xm m M X)) := by
  obtain ⟨hP1, -, hP3, hP4, -⟩ := hP
  have key : ∀ d p : Nat, p + d = P → am_W sc 81 6 [.ref M, .ref (M + o), .int (nI f), .int (nI r), .int (x_b (x_cov X o f r p)), .int (nI p)] [] (xm m M X) (am_R1 (some (.int (x_b (x_cov X o f r P)))) (xm m M X)) := by
    intro d
    induction d with
    | zero =>
      intro p hp
      have e : p = P := by omega
      subst e
      refine am_iload iX7_covers_6 rfl ?_
      refine am_aload_n iX7_covers_8 rfl rfl ?_
      refine x_getI hM iX7_covers_9 fX7_covers_114 ?_
      rw [hP1]
      refine am_icmp_ge iX7_covers_12 (fun hc => ?_) (fun hc => ?_)
      · refine am_iload iX7_covers_51 rfl ?_
        exact am_zret iX7_covers_53 rfl (x_b01 _) (⟨rfl, rfl⟩)
      · exact absurd (nI_le (Nat.le_refl p) (by omega)) hc
    | succ d ih =>
      intro p hp
      refine am_iload iX7_covers_6 rfl ?_
      refine am_aload_n iX7_covers_8 rfl rfl ?_
      refine x_getI hM iX7_covers_9 fX7_covers_114 ?_
      rw [hP1]
      refine am_icmp_ge iX7_covers_12 (fun hc => ?_) (fun hc => ?_)
      · exact absurd ((nI_leI (by omega) (by omega)).mp hc) (by omega)
      · refine am_iload iX7_covers_15 rfl ?_
        refine am_aload_n iX7_covers_17 rfl rfl ?_
        refine x_getR 15 hM iX7_covers_18 fX7_covers_53 rfl rfl rfl ?_
        refine am_iconst (i := 3) (v := 3) rfl iX7_covers_21 ?_
        refine am_iload_n iX7_covers_22 rfl rfl ?_
        refine am_imul iX7_covers_23 ?_
        refine am_iload iX7_covers_24 rfl ?_
        refine am_iadd iX7_covers_26 ?_
        refine x_iald (3 * r + p) hM rfl iX7_covers_27 (by first | rfl | simp only [nI_add, pk_mul, nI_1, nL0, nL1, nL2, nL3, nL4, nL10, nL30, nL300, nL401]) ((show 3 * r + p < 24 by omega)) ?_
        refine am_aload_n iX7_covers_28 rfl rfl ?_
        refine am_iload_n iX7_covers_29 rfl rfl ?_
        refine am_iload iX7_covers_30 rfl ?_
        refine am_iadd iX7_covers_32 ?_
        refine x_iald (f + p) hM ho iX7_covers_33 (nI_add f p) (by omega) ?_
        refine am_icmp_lt iX7_covers_34 (fun hc => ?_) (fun hc => ?_)
        · refine am_iconst (i := 0) (v := 0) rfl iX7_covers_41 ?_
          refine am_iand iX7_covers_42 ?_
          refine am_istore_4 iX7_covers_43 rfl rfl ?_
          refine am_iinc_5 1 iX7_covers_45 rfl rfl rfl ?_
          refine am_goto iX7_covers_48 ?_
          rw [x_b_and0, nI_1]
          have e1 : x_cov X o f r (p + 1) = (x_cov X o f r p && false) := by
            show (x_cov X o f r p && decide (X.1 o (f + p) ≤ X.1 15 (3 * r + p))) = _
            rw [decide_eq_false (Int32.not_le.mpr hc)]
          rw [← e1]
          exact ih (p + 1) (by omega)
        · refine am_iconst (i := 1) (v := 1) rfl iX7_covers_37 ?_
          refine am_goto iX7_covers_38 ?_
          refine am_iand iX7_covers_42 ?_
          refine am_istore_4 iX7_covers_43 rfl rfl ?_
          refine am_iinc_5 1 iX7_covers_45 rfl rfl rfl ?_
          refine am_goto iX7_covers_48 ?_
          rw [x_b_and1, nI_1]
          have e1 : x_cov X o f r (p + 1) = (x_cov X o f r p && true) := by
            show (x_cov X o f r p && decide (X.1 o (f + p) ≤ X.1 15 (3 * r + p))) = _
            rw [decide_eq_true (Int32.not_lt.mp hc)]
          rw [← e1]
          exact ih (p + 1) (by omega)
  refine am_iconst (i := 1) (v := 1) rfl iX7_covers_0 ?_
  refine am_istore_4 iX7_covers_1 rfl rfl ?_
  refine am_iconst (i := 0) (v := 0) rfl iX7_covers_3 ?_
  refine am_istore_5 iX7_covers_4 rfl rfl ?_
  exact key P 0 (by omega)
