/-! the reference's methods that read or set one place, more of them; tokens -/
section
variable {sc : Nat × (Nat → Int32)} {m : am_Mem} {M : Nat} {X : ms_X} {P R : Nat}
def x_hi (t : Int64) : Int64 := t >>> ((20 : Int32).toInt64 &&& 63)
def x_tkN (X : ms_X) (P : Nat) (t : Int64) : Nat → Bool
  | 0 => true
  | n + 1 => x_tkN X P t n && decide (x_pos t (nI n) ≤ (if n < P then X.1 1 n else 0))
def x_isTok (X : ms_X) (P : Nat) (t : Int64) : Bool := if t.toInt < (0 : Int64).toInt ∨ ¬ (x_hi t).toInt < (134217728 : Int64).toInt ∨ ¬ (t &&& 1048575) = x_chk (x_hi t) then false else x_tkN X P t 3
theorem x_isToken (hM : LM m M) (hP : x_PR X P R) (t : Int64) : am_W sc 73 0 [.ref M, .long t, .retAddr 1, .retAddr 1, .retAddr 1, .retAddr 1, .retAddr 1] [] (xm m M X) (am_R1 (some (.int (x_b (x_isTok X P t)))) (xm m M X)) := by
  have key : ∀ d p : Nat, p + d = 3 → am_W sc 73 40 [.ref M, .long t, .retAddr 1, .long (x_hi t), .retAddr 1, .int (x_b (x_tkN X P t p)), .int (nI p)] [] (xm m M X) (am_R1 (some (.int (x_b (x_tkN X P t 3)))) (xm m M X)) := by
    intro d
    induction d with
    | zero =>
      intro p hp
      have e : p = 3 := by omega
      subst e
      refine am_iload iX7_isToken_40 rfl ?_
      refine am_iconst (i := 3) (v := 3) rfl iX7_isToken_42 ?_
      refine am_icmp_ge iX7_isToken_43 (fun _ => ?_) (fun hc => absurd (by decide) hc)
      refine am_iload iX7_isToken_91 rfl ?_
      exact am_zret iX7_isToken_93 rfl (x_b01 _) (⟨rfl, rfl⟩)
    | succ d ih =>
      intro p hp
      refine am_iload iX7_isToken_40 rfl ?_
      refine am_iconst (i := 3) (v := 3) rfl iX7_isToken_42 ?_
      refine am_icmp_ge iX7_isToken_43 (fun hc => absurd hc (fun q => absurd ((nI_leI (a := 3) (b := p) (by omega) (by omega)).mp q) (by omega))) (fun _ => ?_)
      refine am_iload iX7_isToken_46 rfl ?_
      refine am_lload_n iX7_isToken_48 rfl rfl ?_
      refine am_iload iX7_isToken_49 rfl ?_
      refine am_cS2r iX7_isToken_51 cX7_isToken_142 mX7_position rfl rfl rfl (x_position _ _) ?_
      refine am_iload iX7_isToken_54 rfl ?_
      refine am_aload_n iX7_isToken_56 rfl rfl ?_
      refine x_getI hM iX7_isToken_57 fX7_isToken_114 ?_
      rw [hP.1]
      have fin : ∀ w : Int32, w = (if p < P then X.1 1 p else 0) → am_W sc 73 74 [.ref M, .long t, .retAddr 1, .long (x_hi t), .retAddr 1, .int (x_b (x_tkN X P t p)), .int (nI p)] [.int w, .int (x_pos t (nI p)), .int (x_b (x_tkN X P t p))] (xm m M X) (am_R1 (some (.int (x_b (x_tkN X P t 3)))) (xm m M X)) := by
        intro w hw
        refine am_icmp_gt iX7_isToken_74 (fun hc => ?_) (fun hc => ?_)
        · refine am_iconst (i := 0) (v := 0) rfl iX7_isToken_81 ?_
          refine am_iand iX7_isToken_82 ?_
          refine am_istore_5 iX7_isToken_83 rfl rfl ?_
          refine am_iinc_6 1 iX7_isToken_85 rfl rfl rfl ?_
          refine am_goto iX7_isToken_88 ?_
          rw [x_b_and0, nI_1]
          have e1 : x_tkN X P t (p + 1) = (x_tkN X P t p && false) := by
            show (x_tkN X P t p && decide (x_pos t (nI p) ≤ (if p < P then X.1 1 p else 0))) = _
            rw [← hw, decide_eq_false (Int32.not_le.mpr hc)]
          rw [← e1]
          exact ih (p + 1) (by omega)
        · refine am_iconst (i := 1) (v := 1) rfl iX7_isToken_77 ?_
          refine am_goto iX7_isToken_78 ?_
          refine am_iand iX7_isToken_82 ?_
          refine am_istore_5 iX7_isToken_83 rfl rfl ?_
          refine am_iinc_6 1 iX7_isToken_85 rfl rfl rfl ?_
          refine am_goto iX7_isToken_88 ?_
          rw [x_b_and1, nI_1]
          have e1 : x_tkN X P t (p + 1) = (x_tkN X P t p && true) := by
            show (x_tkN X P t p && decide (x_pos t (nI p) ≤ (if p < P then X.1 1 p else 0))) = _
            rw [← hw, decide_eq_true (Int32.not_lt.mp hc)]
          rw [← e1]
          exact ih (p + 1) (by omega)
      have hP4 := hP.2.2.2.1
      refine am_icmp_ge iX7_isToken_60 (fun hc => ?_) (fun hc => ?_)
      · refine am_iconst (i := 0) (v := 0) rfl iX7_isToken_73 ?_
        have h9 : ¬ p < P := fun q => absurd ((nI_leI (by omega) (by omega)).mp hc) (by omega)
        exact fin 0 (by rw [if_neg h9])
      · have h9 : p < P := Nat.lt_of_not_le (fun q => hc ((nI_leI (by omega) (by omega)).mpr q))
        refine am_aload_n iX7_isToken_63 rfl rfl ?_
        refine x_getR 1 hM iX7_isToken_64 fX7_isToken_7 rfl rfl rfl ?_
        refine am_iload iX7_isToken_67 rfl ?_
        refine x_iald (p) hM rfl iX7_isToken_69 (by first | rfl | simp only [nI_add, pk_mul, nI_1, nL0, nL1, nL2, nL3, nL4, nL10, nL30, nL300, nL401]) ((show p < 3 by omega)) ?_
        refine am_goto iX7_isToken_70 ?_
        exact fin _ (by rw [if_pos h9])
  unfold x_isTok
  refine am_lload_n iX7_isToken_0 rfl rfl ?_
  refine am_bipush (i := 20) (v := 20) rfl iX7_isToken_1 ?_
  refine am_lshr iX7_isToken_3 ?_
  refine am_lstore_n_3 iX7_isToken_4 rfl rfl ?_
  refine am_lload_n iX7_isToken_5 rfl rfl ?_
  refine am_lconst (i := 0) (v := 0) rfl iX7_isToken_6 ?_
  refine am_lcmp iX7_isToken_7 ?_
  refine am_if_lt iX7_isToken_8 (fun hc => ?_) (fun hc => ?_)
  · rw [if_pos (Or.inl (lg_lt0.mp hc))]
    refine am_iconst (i := 0) (v := 0) rfl iX7_isToken_32 ?_
    exact am_zret iX7_isToken_33 rfl (by first | exact Or.inl rfl | exact Or.inr rfl) (⟨rfl, rfl⟩)
  · have h1 : ¬ t.toInt < (0 : Int64).toInt := fun q => hc (lg_lt0.mpr q)
    refine am_lload_n iX7_isToken_11 rfl rfl ?_
    refine am_ldc2 (v := 134217728) (wd_931) iX7_isToken_12 ?_
    refine am_lcmp iX7_isToken_15 ?_
    refine am_if_ge iX7_isToken_16 (fun hc => ?_) (fun hc => ?_)
    · have h2 : ¬ (x_hi t).toInt < (134217728 : Int64).toInt := fun q => absurd hc (Int32.not_le.mpr (lg_lt0.mpr q))
      rw [if_pos (Or.inr (Or.inl h2))]
      refine am_iconst (i := 0) (v := 0) rfl iX7_isToken_32 ?_
      exact am_zret iX7_isToken_33 rfl (by first | exact Or.inl rfl | exact Or.inr rfl) (⟨rfl, rfl⟩)
    · have h2 : (x_hi t).toInt < (134217728 : Int64).toInt := lg_lt0.mp (Int32.not_le.mp hc)
      refine am_lload_n iX7_isToken_19 rfl rfl ?_
      refine am_ldc2 (v := 1048575) (wd_932) iX7_isToken_20 ?_
      refine am_land iX7_isToken_23 ?_
      refine am_lload_n iX7_isToken_24 rfl rfl ?_
      refine am_cS1r iX7_isToken_25 cX7_isToken_132 mX7_check rfl rfl rfl (x_check _) ?_
      refine am_lcmp iX7_isToken_28 ?_
      refine am_if_eq iX7_isToken_29 (fun hc => ?_) (fun hc => ?_)
      · have h3 : (t &&& 1048575) = x_chk (x_hi t) := lg_eq0.mp hc
        rw [if_neg (fun q => q.elim h1 (fun q => q.elim (fun q => q h2) (fun q => q h3)))]
        refine am_iconst (i := 1) (v := 1) rfl iX7_isToken_34 ?_
        refine am_istore_5 iX7_isToken_35 rfl rfl ?_
        refine am_iconst (i := 0) (v := 0) rfl iX7_isToken_37 ?_
        refine am_istore_6 iX7_isToken_38 rfl rfl ?_
        exact key 3 0 rfl
      · have h3 : ¬ (t &&& 1048575) = x_chk (x_hi t) := fun q => hc (lg_eq0.mpr q)
        rw [if_pos (Or.inr (Or.inr h3))]
        refine am_iconst (i := 0) (v := 0) rfl iX7_isToken_32 ?_
        exact am_zret iX7_isToken_33 rfl (by first | exact Or.inl rfl | exact Or.inr rfl) (⟨rfl, rfl⟩)
def x_told (X : ms_X) (P : Nat) (t : Int64) (p : Int32) : Int32 × ms_X := if x_rg p 0 ((P : Int) - 1) = false then (0, x_th X 1) else if x_isTok X P t = false then (0, x_th X 2) else (x_pos t p, x_th X 0)
theorem x_told_ok (hM : LM m M) (hP : x_PR X P R) (t : Int64) (p : Int32) : am_W sc 109 0 [.ref M, .long t, .retAddr 1, .int p] [] (xm m M X) (am_R1 (some (.int (x_told X P t p).1)) (xm m M (x_told X P t p).2)) := by
  unfold x_told
  refine am_aload_n iX7_told_0 rfl rfl ?_
  refine am_aload_n iX7_told_1 rfl rfl ?_
  refine am_iload_n iX7_told_2 rfl rfl ?_
  refine am_cV1r iX7_told_3 cX7_told_193 mX7_isPart hM.1 rfl rfl rfl (x_isPart hM hP _) ?_
  cases hp : x_rg p 0 ((P : Int) - 1)
  · refine am_if_ne iX7_told_6 (fun hc => absurd (by decide) hc) (fun _ => ?_)
    refine am_iconst (i := 1) (v := 1) rfl iX7_told_9 ?_
    refine am_goto iX7_told_10 ?_
    refine x_putI hM iX7_told_26 fX7_told_121 rfl rfl ?_
    refine am_aload_n iX7_told_29 rfl rfl ?_
    refine x_getI hM iX7_told_30 fX7_told_121 ?_
    rw [xU_s]
    refine am_if_le iX7_told_33 (fun hc => absurd hc (by decide)) (fun _ => ?_)
    refine am_iconst (i := 0) (v := 0) rfl iX7_told_36 ?_
    refine am_goto iX7_told_37 ?_
    exact am_iret iX7_told_45 rfl (⟨rfl, rfl⟩)
  · refine am_if_ne iX7_told_6 (fun _ => ?_) (fun hc => absurd hc (by decide))
    refine am_aload_n iX7_told_13 rfl rfl ?_
    refine am_lload_n iX7_told_14 rfl rfl ?_
    refine am_cV1r iX7_told_15 cX7_told_237 mX7_isToken hM.1 rfl rfl rfl (x_isToken hM hP _) ?_
    cases ht : x_isTok X P t
    · refine am_if_ne iX7_told_18 (fun hc => absurd (by decide) hc) (fun _ => ?_)
      refine am_iconst (i := 2) (v := 2) rfl iX7_told_21 ?_
      refine am_goto iX7_told_22 ?_
      refine x_putI hM iX7_told_26 fX7_told_121 rfl rfl ?_
      refine am_aload_n iX7_told_29 rfl rfl ?_
      refine x_getI hM iX7_told_30 fX7_told_121 ?_
      rw [xU_s]
      refine am_if_le iX7_told_33 (fun hc => absurd hc (by decide)) (fun _ => ?_)
      refine am_iconst (i := 0) (v := 0) rfl iX7_told_36 ?_
      refine am_goto iX7_told_37 ?_
      exact am_iret iX7_told_45 rfl (⟨rfl, rfl⟩)
    · refine am_if_ne iX7_told_18 (fun _ => ?_) (fun hc => absurd hc (by decide))
      refine am_iconst (i := 0) (v := 0) rfl iX7_told_25 ?_
      refine x_putI hM iX7_told_26 fX7_told_121 rfl rfl ?_
      refine am_aload_n iX7_told_29 rfl rfl ?_
      refine x_getI hM iX7_told_30 fX7_told_121 ?_
      rw [xU_s]
      refine am_if_le iX7_told_33 (fun _ => ?_) (fun hc => absurd (by decide) hc)
      refine am_lload_n iX7_told_40 rfl rfl ?_
      refine am_iload_n iX7_told_41 rfl rfl ?_
      refine am_cS2r iX7_told_42 cX7_told_142 mX7_position rfl rfl rfl (x_position _ _) ?_
      exact am_iret iX7_told_45 rfl (⟨rfl, rfl⟩)
def x_speed (X : ms_X) (R : Nat) (r v : Int32) : Int32 × ms_X := if x_rg r 0 ((R : Int) - 1) = false then (0, x_th X 1) else if x_rg v 0 10 = false then (0, x_th X 2) else (X.1 16 (nt r), xU (x_th X 0) 16 (nt r) v)
theorem x_speed_ok (hM : LM m M) (hP : x_PR X P R) (r v : Int32) : am_W sc 84 0 [.ref M, .int r, .int v, .retAddr 1] [] (xm m M X) (am_R1 (some (.int (x_speed X R r v).1)) (xm m M (x_speed X R r v).2)) := by
  unfold x_speed
  refine am_aload_n iX7_speed_0 rfl rfl ?_
  refine am_aload_n iX7_speed_1 rfl rfl ?_
  refine am_iload_n iX7_speed_2 rfl rfl ?_
  refine am_cV1r iX7_speed_3 cX7_speed_162 mX7_isReplica hM.1 rfl rfl rfl (x_isReplica hM hP _) ?_
  cases hr : x_rg r 0 ((R : Int) - 1)
  · refine am_if_ne iX7_speed_6 (fun hc => absurd (by decide) hc) (fun _ => ?_)
    refine am_iconst (i := 1) (v := 1) rfl iX7_speed_9 ?_
    refine am_goto iX7_speed_10 ?_
    refine x_putI hM iX7_speed_30 fX7_speed_121 rfl rfl ?_
    refine am_aload_n iX7_speed_33 rfl rfl ?_
    refine x_getI hM iX7_speed_34 fX7_speed_121 ?_
    rw [xU_s]
    refine am_if_le iX7_speed_37 (fun hc => absurd hc (by decide)) (fun _ => ?_)
    refine am_iconst (i := 0) (v := 0) rfl iX7_speed_40 ?_
    exact am_iret iX7_speed_41 rfl (⟨rfl, rfl⟩)
  · refine am_if_ne iX7_speed_6 (fun _ => ?_) (fun hc => absurd hc (by decide))
    obtain ⟨n, hn, hnt, rfl⟩ := x_rg_ex 4 hr (by have := hP.2.2.2.2.2; omega)
    rw [hnt]
    refine am_iload_n iX7_speed_13 rfl rfl ?_
    refine am_i2l iX7_speed_14 ?_
    refine am_lconst (i := 0) (v := 0) rfl iX7_speed_15 ?_
    refine am_ldc2 (v := 10) (wd_885) iX7_speed_16 ?_
    refine am_cS3r iX7_speed_19 cX7_speed_148 mX7_in rfl rfl rfl (x_in _ _ _) ?_
    rw [x_rgL]
    show am_W _ _ _ _ (.int (x_b (x_rg v 0 10)) :: _) _ _
    cases hv : x_rg v 0 10
    · refine am_if_ne iX7_speed_22 (fun hc => absurd (by decide) hc) (fun _ => ?_)
      refine am_iconst (i := 2) (v := 2) rfl iX7_speed_25 ?_
      refine am_goto iX7_speed_26 ?_
      refine x_putI hM iX7_speed_30 fX7_speed_121 rfl rfl ?_
      refine am_aload_n iX7_speed_33 rfl rfl ?_
      refine x_getI hM iX7_speed_34 fX7_speed_121 ?_
      rw [xU_s]
      refine am_if_le iX7_speed_37 (fun hc => absurd hc (by decide)) (fun _ => ?_)
      refine am_iconst (i := 0) (v := 0) rfl iX7_speed_40 ?_
      exact am_iret iX7_speed_41 rfl (⟨rfl, rfl⟩)
    · refine am_if_ne iX7_speed_22 (fun _ => ?_) (fun hc => absurd hc (by decide))
      refine am_iconst (i := 0) (v := 0) rfl iX7_speed_29 ?_
      refine x_putI hM iX7_speed_30 fX7_speed_121 rfl rfl ?_
      refine am_aload_n iX7_speed_33 rfl rfl ?_
      refine x_getI hM iX7_speed_34 fX7_speed_121 ?_
      rw [xU_s]
      refine am_if_le iX7_speed_37 (fun _ => ?_) (fun hc => absurd (by decide) hc)
      refine am_aload_n iX7_speed_42 rfl rfl ?_
      refine x_getR 16 hM iX7_speed_43 fX7_speed_56 rfl rfl rfl ?_
      refine am_iload_n iX7_speed_46 rfl rfl ?_
      refine x_iald (n) hM rfl iX7_speed_47 (by first | rfl | simp only [nI_add, pk_mul, nI_1, nL0, nL1, nL2, nL3, nL4, nL10, nL30, nL300, nL401]) (hn) ?_
      refine am_istore_n_3 iX7_speed_48 rfl rfl ?_
      refine am_aload_n iX7_speed_49 rfl rfl ?_
      refine x_getR 16 hM iX7_speed_50 fX7_speed_56 rfl rfl rfl ?_
      refine am_iload_n iX7_speed_53 rfl rfl ?_
      refine am_iload_n iX7_speed_54 rfl rfl ?_
      refine x_iast (n) hM rfl iX7_speed_55 (by first | rfl | simp only [nI_add, pk_mul, nI_1, nL0, nL1, nL2, nL3, nL4, nL10, nL30, nL300, nL401]) (hn) ?_
      refine am_iload_n iX7_speed_56 rfl rfl ?_
      exact am_iret iX7_speed_57 rfl (⟨rfl, rfl⟩)
def x_at (X : ms_X) (P R : Nat) (r p : Int32) : Int32 × ms_X := if (x_rg r 0 ((R : Int) - 1) && x_rg p 0 ((P : Int) - 1)) = true then (X.1 15 (3 * nt r + nt p), x_th X 0) else (0, x_th X 1)
theorem x_at_ok (hM : LM m M) (hP : x_PR X P R) (r p : Int32) : am_W sc 104 0 [.ref M, .int r, .int p] [] (xm m M X) (am_R1 (some (.int (x_at X P R r p).1)) (xm m M (x_at X P R r p).2)) := by
  unfold x_at
  refine am_aload_n iX7_at_0 rfl rfl ?_
  refine am_aload_n iX7_at_1 rfl rfl ?_
  refine am_iload_n iX7_at_2 rfl rfl ?_
  refine am_cV1r iX7_at_3 cX7_at_162 mX7_isReplica hM.1 rfl rfl rfl (x_isReplica hM hP _) ?_
  cases hr : x_rg r 0 ((R : Int) - 1)
  · refine am_if_eq iX7_at_6 (fun _ => ?_) (fun hc => absurd (by decide) hc)
    refine am_iconst (i := 1) (v := 1) rfl iX7_at_21 ?_
    refine x_putI hM iX7_at_22 fX7_at_121 rfl rfl ?_
    refine am_aload_n iX7_at_25 rfl rfl ?_
    refine x_getI hM iX7_at_26 fX7_at_121 ?_
    rw [xU_s]
    refine am_if_le iX7_at_29 (fun hc => absurd hc (by decide)) (fun _ => ?_)
    refine am_iconst (i := 0) (v := 0) rfl iX7_at_32 ?_
    refine am_goto iX7_at_33 ?_
    exact am_iret iX7_at_46 rfl (⟨rfl, rfl⟩)
  · refine am_if_eq iX7_at_6 (fun hc => absurd hc (by decide)) (fun _ => ?_)
    refine am_aload_n iX7_at_9 rfl rfl ?_
    refine am_iload_n iX7_at_10 rfl rfl ?_
    refine am_cV1r iX7_at_11 cX7_at_193 mX7_isPart hM.1 rfl rfl rfl (x_isPart hM hP _) ?_
    cases hp : x_rg p 0 ((P : Int) - 1)
    · refine am_if_eq iX7_at_14 (fun _ => ?_) (fun hc => absurd (by decide) hc)
      refine am_iconst (i := 1) (v := 1) rfl iX7_at_21 ?_
      refine x_putI hM iX7_at_22 fX7_at_121 rfl rfl ?_
      refine am_aload_n iX7_at_25 rfl rfl ?_
      refine x_getI hM iX7_at_26 fX7_at_121 ?_
      rw [xU_s]
      refine am_if_le iX7_at_29 (fun hc => absurd hc (by decide)) (fun _ => ?_)
      refine am_iconst (i := 0) (v := 0) rfl iX7_at_32 ?_
      refine am_goto iX7_at_33 ?_
      exact am_iret iX7_at_46 rfl (⟨rfl, rfl⟩)
    · refine am_if_eq iX7_at_14 (fun hc => absurd hc (by decide)) (fun _ => ?_)
      obtain ⟨n, hn, hnt, rfl⟩ := x_rg_ex 4 hr (by have := hP.2.2.2.2.2; omega)
      obtain ⟨j, hj, hjt, rfl⟩ := x_rg_ex 3 hp (by have := hP.2.2.2.1; omega)
      rw [hnt, hjt]
      refine am_iconst (i := 0) (v := 0) rfl iX7_at_17 ?_
      refine am_goto iX7_at_18 ?_
      refine x_putI hM iX7_at_22 fX7_at_121 rfl rfl ?_
      refine am_aload_n iX7_at_25 rfl rfl ?_
      refine x_getI hM iX7_at_26 fX7_at_121 ?_
      rw [xU_s]
      refine am_if_le iX7_at_29 (fun _ => ?_) (fun hc => absurd (by decide) hc)
      refine am_aload_n iX7_at_36 rfl rfl ?_
      refine x_getR 15 hM iX7_at_37 fX7_at_53 rfl rfl rfl ?_
      refine am_iconst (i := 3) (v := 3) rfl iX7_at_40 ?_
      refine am_iload_n iX7_at_41 rfl rfl ?_
      refine am_imul iX7_at_42 ?_
      refine am_iload_n iX7_at_43 rfl rfl ?_
      refine am_iadd iX7_at_44 ?_
      refine x_iald (3 * n + j) hM rfl iX7_at_45 (by first | rfl | simp only [nI_add, pk_mul, nI_1, nL0, nL1, nL2, nL3, nL4, nL10, nL30, nL300, nL401]) ((show 3 * n + j < 24 by omega)) ?_
      exact am_iret iX7_at_46 rfl (⟨rfl, rfl⟩)
def x_kept (X : ms_X) (P R : Nat) (r p : Int32) : Int32 × ms_X := if (x_rg r 0 ((R : Int) - 1) && x_rg p 0 ((P : Int) - 1)) = true then (X.1 15 (3 * (4 + nt r) + nt p), x_th X 0) else (0, x_th X 1)
theorem x_kept_ok (hM : LM m M) (hP : x_PR X P R) (r p : Int32) : am_W sc 105 0 [.ref M, .int r, .int p] [] (xm m M X) (am_R1 (some (.int (x_kept X P R r p).1)) (xm m M (x_kept X P R r p).2)) := by
  unfold x_kept
  refine am_aload_n iX7_kept_0 rfl rfl ?_
  refine am_aload_n iX7_kept_1 rfl rfl ?_
  refine am_iload_n iX7_kept_2 rfl rfl ?_
  refine am_cV1r iX7_kept_3 cX7_kept_162 mX7_isReplica hM.1 rfl rfl rfl (x_isReplica hM hP _) ?_
  cases hr : x_rg r 0 ((R : Int) - 1)
  · refine am_if_eq iX7_kept_6 (fun _ => ?_) (fun hc => absurd (by decide) hc)
    refine am_iconst (i := 1) (v := 1) rfl iX7_kept_21 ?_
    refine x_putI hM iX7_kept_22 fX7_kept_121 rfl rfl ?_
    refine am_aload_n iX7_kept_25 rfl rfl ?_
    refine x_getI hM iX7_kept_26 fX7_kept_121 ?_
    rw [xU_s]
    refine am_if_le iX7_kept_29 (fun hc => absurd hc (by decide)) (fun _ => ?_)
    refine am_iconst (i := 0) (v := 0) rfl iX7_kept_32 ?_
    refine am_goto iX7_kept_33 ?_
    exact am_iret iX7_kept_48 rfl (⟨rfl, rfl⟩)
  · refine am_if_eq iX7_kept_6 (fun hc => absurd hc (by decide)) (fun _ => ?_)
    refine am_aload_n iX7_kept_9 rfl rfl ?_
    refine am_iload_n iX7_kept_10 rfl rfl ?_
    refine am_cV1r iX7_kept_11 cX7_kept_193 mX7_isPart hM.1 rfl rfl rfl (x_isPart hM hP _) ?_
    cases hp : x_rg p 0 ((P : Int) - 1)
    · refine am_if_eq iX7_kept_14 (fun _ => ?_) (fun hc => absurd (by decide) hc)
      refine am_iconst (i := 1) (v := 1) rfl iX7_kept_21 ?_
      refine x_putI hM iX7_kept_22 fX7_kept_121 rfl rfl ?_
      refine am_aload_n iX7_kept_25 rfl rfl ?_
      refine x_getI hM iX7_kept_26 fX7_kept_121 ?_
      rw [xU_s]
      refine am_if_le iX7_kept_29 (fun hc => absurd hc (by decide)) (fun _ => ?_)
      refine am_iconst (i := 0) (v := 0) rfl iX7_kept_32 ?_
      refine am_goto iX7_kept_33 ?_
      exact am_iret iX7_kept_48 rfl (⟨rfl, rfl⟩)
    · refine am_if_eq iX7_kept_14 (fun hc => absurd hc (by decide)) (fun _ => ?_)
      obtain ⟨n, hn, hnt, rfl⟩ := x_rg_ex 4 hr (by have := hP.2.2.2.2.2; omega)
      obtain ⟨j, hj, hjt, rfl⟩ := x_rg_ex 3 hp (by have := hP.2.2.2.1; omega)
      rw [hnt, hjt]
      refine am_iconst (i := 0) (v := 0) rfl iX7_kept_17 ?_
      refine am_goto iX7_kept_18 ?_
      refine x_putI hM iX7_kept_22 fX7_kept_121 rfl rfl ?_
      refine am_aload_n iX7_kept_25 rfl rfl ?_
      refine x_getI hM iX7_kept_26 fX7_kept_121 ?_
      rw [xU_s]
      refine am_if_le iX7_kept_29 (fun _ => ?_) (fun hc => absurd (by decide) hc)
      refine am_aload_n iX7_kept_36 rfl rfl ?_
      refine x_getR 15 hM iX7_kept_37 fX7_kept_53 rfl rfl rfl ?_
      refine am_iconst (i := 3) (v := 3) rfl iX7_kept_40 ?_
      refine am_iconst (i := 4) (v := 4) rfl iX7_kept_41 ?_
      refine am_iload_n iX7_kept_42 rfl rfl ?_
      refine am_iadd iX7_kept_43 ?_
      refine am_imul iX7_kept_44 ?_
      refine am_iload_n iX7_kept_45 rfl rfl ?_
      refine am_iadd iX7_kept_46 ?_
      refine x_iald (3 * (4 + n) + j) hM rfl iX7_kept_47 (by first | rfl | simp only [nI_add, pk_mul, nI_1, nL0, nL1, nL2, nL3, nL4, nL10, nL30, nL300, nL401]) ((show 3 * (4 + n) + j < 24 by omega)) ?_
      exact am_iret iX7_kept_48 rfl (⟨rfl, rfl⟩)
def x_log (X : ms_X) (P : Nat) (p w : Int32) : Int32 × ms_X := if (x_rg p 0 ((P : Int) - 1) && x_rg w 0 1) = true then (if w = 0 then X.1 1 (nt p) else X.1 2 (nt p), x_th X 0) else (0, x_th X 1)
theorem x_log_ok (hM : LM m M) (hP : x_PR X P R) (p w : Int32) : am_W sc 106 0 [.ref M, .int p, .int w] [] (xm m M X) (am_R1 (some (.int (x_log X P p w).1)) (xm m M (x_log X P p w).2)) := by
  unfold x_log
  refine am_aload_n iX7_log_0 rfl rfl ?_
  refine am_aload_n iX7_log_1 rfl rfl ?_
  refine am_iload_n iX7_log_2 rfl rfl ?_
  refine am_cV1r iX7_log_3 cX7_log_193 mX7_isPart hM.1 rfl rfl rfl (x_isPart hM hP _) ?_
  cases hp : x_rg p 0 ((P : Int) - 1)
  · refine am_if_eq iX7_log_6 (fun _ => ?_) (fun hc => absurd (by decide) hc)
    refine am_iconst (i := 1) (v := 1) rfl iX7_log_23 ?_
    refine x_putI hM iX7_log_24 fX7_log_121 rfl rfl ?_
    refine am_aload_n iX7_log_27 rfl rfl ?_
    refine x_getI hM iX7_log_28 fX7_log_121 ?_
    rw [xU_s]
    refine am_if_le iX7_log_31 (fun hc => absurd hc (by decide)) (fun _ => ?_)
    refine am_iconst (i := 0) (v := 0) rfl iX7_log_34 ?_
    refine am_goto iX7_log_35 ?_
    exact am_iret iX7_log_57 rfl (⟨rfl, rfl⟩)
  · refine am_if_eq iX7_log_6 (fun hc => absurd hc (by decide)) (fun _ => ?_)
    refine am_iload_n iX7_log_9 rfl rfl ?_
    refine am_i2l iX7_log_10 ?_
    refine am_lconst (i := 0) (v := 0) rfl iX7_log_11 ?_
    refine am_lconst (i := 1) (v := 1) rfl iX7_log_12 ?_
    refine am_cS3r iX7_log_13 cX7_log_148 mX7_in rfl rfl rfl (x_in _ _ _) ?_
    rw [x_rgL]
    show am_W _ _ _ _ (.int (x_b (x_rg w 0 1)) :: _) _ _
    cases hw : x_rg w 0 1
    · refine am_if_eq iX7_log_16 (fun _ => ?_) (fun hc => absurd (by decide) hc)
      refine am_iconst (i := 1) (v := 1) rfl iX7_log_23 ?_
      refine x_putI hM iX7_log_24 fX7_log_121 rfl rfl ?_
      refine am_aload_n iX7_log_27 rfl rfl ?_
      refine x_getI hM iX7_log_28 fX7_log_121 ?_
      rw [xU_s]
      refine am_if_le iX7_log_31 (fun hc => absurd hc (by decide)) (fun _ => ?_)
      refine am_iconst (i := 0) (v := 0) rfl iX7_log_34 ?_
      refine am_goto iX7_log_35 ?_
      exact am_iret iX7_log_57 rfl (⟨rfl, rfl⟩)
    · refine am_if_eq iX7_log_16 (fun hc => absurd hc (by decide)) (fun _ => ?_)
      obtain ⟨j, hj, hjt, rfl⟩ := x_rg_ex 3 hp (by have := hP.2.2.2.1; omega)
      rw [hjt]
      refine am_iconst (i := 0) (v := 0) rfl iX7_log_19 ?_
      refine am_goto iX7_log_20 ?_
      refine x_putI hM iX7_log_24 fX7_log_121 rfl rfl ?_
      refine am_aload_n iX7_log_27 rfl rfl ?_
      refine x_getI hM iX7_log_28 fX7_log_121 ?_
      rw [xU_s]
      refine am_if_le iX7_log_31 (fun _ => ?_) (fun hc => absurd (by decide) hc)
      refine am_iload_n iX7_log_38 rfl rfl ?_
      refine am_if_ne iX7_log_39 (fun hc => ?_) (fun hc => ?_)
      · refine am_aload_n iX7_log_51 rfl rfl ?_
        refine x_getR 2 hM iX7_log_52 fX7_log_13 rfl rfl rfl ?_
        refine am_iload_n iX7_log_55 rfl rfl ?_
        refine x_iald (j) hM rfl iX7_log_56 (by first | rfl | simp only [nI_add, pk_mul, nI_1, nL0, nL1, nL2, nL3, nL4, nL10, nL30, nL300, nL401]) (hj) ?_
        exact am_iret iX7_log_57 rfl (⟨by rw [if_neg hc]; rfl, rfl⟩)
      · refine am_aload_n iX7_log_42 rfl rfl ?_
        refine x_getR 1 hM iX7_log_43 fX7_log_7 rfl rfl rfl ?_
        refine am_iload_n iX7_log_46 rfl rfl ?_
        refine x_iald (j) hM rfl iX7_log_47 (by first | rfl | simp only [nI_add, pk_mul, nI_1, nL0, nL1, nL2, nL3, nL4, nL10, nL30, nL300, nL401]) (hj) ?_
        refine am_goto iX7_log_48 ?_
        exact am_iret iX7_log_57 rfl (⟨by rw [if_pos (hc)]; rfl, rfl⟩)
def x_session (X : ms_X) (P : Nat) (s w p : Int32) : Int32 × ms_X := if (x_rg s 0 7 && (x_rg w 0 1 && x_rg p 0 ((P : Int) - 1))) = true then (if w = 0 then X.1 21 (3 * nt s + nt p) else X.1 22 (3 * nt s + nt p), x_th X 0) else (0, x_th X 1)
theorem x_session_ok (hM : LM m M) (hP : x_PR X P R) (s w p : Int32) : am_W sc 108 0 [.ref M, .int s, .int w, .int p] [] (xm m M X) (am_R1 (some (.int (x_session X P s w p).1)) (xm m M (x_session X P s w p).2)) := by
  unfold x_session
  refine am_aload_n iX7_session_0 rfl rfl ?_
  refine am_iload_n iX7_session_1 rfl rfl ?_
  refine am_cS1r iX7_session_2 cX7_session_152 mX7_isSession rfl rfl rfl (x_isSession _) ?_
  cases hs : x_rg s 0 7
  · refine am_if_eq iX7_session_5 (fun _ => ?_) (fun hc => absurd (by decide) hc)
    refine am_iconst (i := 1) (v := 1) rfl iX7_session_30 ?_
    refine x_putI hM iX7_session_31 fX7_session_121 rfl rfl ?_
    refine am_aload_n iX7_session_34 rfl rfl ?_
    refine x_getI hM iX7_session_35 fX7_session_121 ?_
    rw [xU_s]
    refine am_if_le iX7_session_38 (fun hc => absurd hc (by decide)) (fun _ => ?_)
    refine am_iconst (i := 0) (v := 0) rfl iX7_session_41 ?_
    refine am_goto iX7_session_42 ?_
    exact am_iret iX7_session_72 rfl (⟨rfl, rfl⟩)
  · refine am_if_eq iX7_session_5 (fun hc => absurd hc (by decide)) (fun _ => ?_)
    refine am_iload_n iX7_session_8 rfl rfl ?_
    refine am_i2l iX7_session_9 ?_
    refine am_lconst (i := 0) (v := 0) rfl iX7_session_10 ?_
    refine am_lconst (i := 1) (v := 1) rfl iX7_session_11 ?_
    refine am_cS3r iX7_session_12 cX7_session_148 mX7_in rfl rfl rfl (x_in _ _ _) ?_
    rw [x_rgL]
    show am_W _ _ _ _ (.int (x_b (x_rg w 0 1)) :: _) _ _
    cases hw : x_rg w 0 1
    · refine am_if_eq iX7_session_15 (fun _ => ?_) (fun hc => absurd (by decide) hc)
      refine am_iconst (i := 1) (v := 1) rfl iX7_session_30 ?_
      refine x_putI hM iX7_session_31 fX7_session_121 rfl rfl ?_
      refine am_aload_n iX7_session_34 rfl rfl ?_
      refine x_getI hM iX7_session_35 fX7_session_121 ?_
      rw [xU_s]
      refine am_if_le iX7_session_38 (fun hc => absurd hc (by decide)) (fun _ => ?_)
      refine am_iconst (i := 0) (v := 0) rfl iX7_session_41 ?_
      refine am_goto iX7_session_42 ?_
      exact am_iret iX7_session_72 rfl (⟨rfl, rfl⟩)
    · refine am_if_eq iX7_session_15 (fun hc => absurd hc (by decide)) (fun _ => ?_)
      refine am_aload_n iX7_session_18 rfl rfl ?_
      refine am_iload_n iX7_session_19 rfl rfl ?_
      refine am_cV1r iX7_session_20 cX7_session_193 mX7_isPart hM.1 rfl rfl rfl (x_isPart hM hP _) ?_
      cases hp : x_rg p 0 ((P : Int) - 1)
      · refine am_if_eq iX7_session_23 (fun _ => ?_) (fun hc => absurd (by decide) hc)
        refine am_iconst (i := 1) (v := 1) rfl iX7_session_30 ?_
        refine x_putI hM iX7_session_31 fX7_session_121 rfl rfl ?_
        refine am_aload_n iX7_session_34 rfl rfl ?_
        refine x_getI hM iX7_session_35 fX7_session_121 ?_
        rw [xU_s]
        refine am_if_le iX7_session_38 (fun hc => absurd hc (by decide)) (fun _ => ?_)
        refine am_iconst (i := 0) (v := 0) rfl iX7_session_41 ?_
        refine am_goto iX7_session_42 ?_
        exact am_iret iX7_session_72 rfl (⟨rfl, rfl⟩)
      · refine am_if_eq iX7_session_23 (fun hc => absurd hc (by decide)) (fun _ => ?_)
        obtain ⟨n, hn, hnt, rfl⟩ := x_rg_ex 8 hs (by omega)
        obtain ⟨j, hj, hjt, rfl⟩ := x_rg_ex 3 hp (by have := hP.2.2.2.1; omega)
        rw [hnt, hjt]
        refine am_iconst (i := 0) (v := 0) rfl iX7_session_26 ?_
        refine am_goto iX7_session_27 ?_
        refine x_putI hM iX7_session_31 fX7_session_121 rfl rfl ?_
        refine am_aload_n iX7_session_34 rfl rfl ?_
        refine x_getI hM iX7_session_35 fX7_session_121 ?_
        rw [xU_s]
        refine am_if_le iX7_session_38 (fun _ => ?_) (fun hc => absurd (by decide) hc)
        refine am_iload_n iX7_session_45 rfl rfl ?_
        refine am_if_ne iX7_session_46 (fun hc => ?_) (fun hc => ?_)
        · refine am_aload_n iX7_session_62 rfl rfl ?_
          refine x_getR 22 hM iX7_session_63 fX7_session_75 rfl rfl rfl ?_
          refine am_iconst (i := 3) (v := 3) rfl iX7_session_66 ?_
          refine am_iload_n iX7_session_67 rfl rfl ?_
          refine am_imul iX7_session_68 ?_
          refine am_iload_n iX7_session_69 rfl rfl ?_
          refine am_iadd iX7_session_70 ?_
          refine x_iald (3 * n + j) hM rfl iX7_session_71 (by first | rfl | simp only [nI_add, pk_mul, nI_1, nL0, nL1, nL2, nL3, nL4, nL10, nL30, nL300, nL401]) ((show 3 * n + j < 24 by omega)) ?_
          exact am_iret iX7_session_72 rfl (⟨by rw [if_neg hc]; rfl, rfl⟩)
        · refine am_aload_n iX7_session_49 rfl rfl ?_
          refine x_getR 21 hM iX7_session_50 fX7_session_72 rfl rfl rfl ?_
          refine am_iconst (i := 3) (v := 3) rfl iX7_session_53 ?_
          refine am_iload_n iX7_session_54 rfl rfl ?_
          refine am_imul iX7_session_55 ?_
          refine am_iload_n iX7_session_56 rfl rfl ?_
          refine am_iadd iX7_session_57 ?_
          refine x_iald (3 * n + j) hM rfl iX7_session_58 (by first | rfl | simp only [nI_add, pk_mul, nI_1, nL0, nL1, nL2, nL3, nL4, nL10, nL30, nL300, nL401]) ((show 3 * n + j < 24 by omega)) ?_
          refine am_goto iX7_session_59 ?_
          exact am_iret iX7_session_72 rfl (⟨by rw [if_pos (hc)]; rfl, rfl⟩)
end
