/-! the reference's methods that read or set one place -/
def nt (v : Int32) : Nat := v.toNatClampNeg
theorem nt_nI {n : Nat} (h : n < 2 ^ 31) : nt (nI n) = n := nI_clamp h
def x_ix (v : Int32) (n : Nat) : Prop := nt v < n ∧ v = nI (nt v)
theorem x_ix_nI {j n : Nat} (h : j < n) (hn : j < 2 ^ 31) : x_ix (nI j) n := by
  unfold x_ix
  rw [nt_nI hn]
  exact ⟨h, rfl⟩
theorem x_rg_ix {v : Int32} {b : Int} {n : Nat} (h : x_rg v 0 b = true) (hb : b < n) : x_ix v n := by
  have h1 := of_decide_eq_true h
  have h2 : ¬ v < 0 := by
    rw [Int32.lt_iff_toInt_lt, Int32.toInt_zero]; omega
  obtain ⟨j, hj, rfl⟩ := nI_of h2
  rw [nI_toInt hj] at h1
  exact x_ix_nI (by omega) hj
theorem x_rg_ex {v : Int32} {b : Int} (n : Nat) (h : x_rg v 0 b = true) (hb : b < n) : ∃ j : Nat, j < n ∧ nt v = j ∧ v = nI j := by
  obtain ⟨h1, h2⟩ := x_rg_ix (n := n) h hb
  exact ⟨nt v, h1, rfl, h2⟩
theorem x_sub1 {P : Nat} (h1 : 1 ≤ P) (h2 : P < 1000) : (nI P - 1).toInt64.toInt = (P : Int) - 1 := by
  rw [nL1, pk_sub h1, Int32.toInt_toInt64, nI_toInt (by omega)]; omega
theorem x_isReplica {sc : Nat × (Nat → Int32)} {m : am_Mem} {M : Nat} {X : ms_X} {P R : Nat} (hM : LM m M) (hP : x_PR X P R) (v : Int32) : am_W sc 75 0 [.ref M, .int v] [] (xm m M X) (am_R1 (some (.int (x_b (x_rg v 0 ((R : Int) - 1))))) (xm m M X)) := by
  refine am_iload_n iX7_isReplica_0 rfl rfl ?_
  refine am_i2l iX7_isReplica_1 ?_
  refine am_lconst (i := 0) (v := 0) rfl iX7_isReplica_2 ?_
  refine am_aload_n iX7_isReplica_3 rfl rfl ?_
  refine x_getI hM iX7_isReplica_4 fX7_isReplica_118 ?_
  refine am_iconst (i := 1) (v := 1) rfl iX7_isReplica_7 ?_
  refine am_isub iX7_isReplica_8 ?_
  refine am_i2l iX7_isReplica_9 ?_
  refine am_cS3r iX7_isReplica_10 cX7_isReplica_148 mX7_in rfl rfl rfl (x_in _ _ _) ?_
  exact am_zret iX7_isReplica_13 rfl (x_b01 _) (⟨by rw [hP.2.1, x_rgL, x_sub1 hP.2.2.2.2.1 (by have := hP.2.2.2.2.2; omega)]; rfl, rfl⟩)
theorem x_isPart {sc : Nat × (Nat → Int32)} {m : am_Mem} {M : Nat} {X : ms_X} {P R : Nat} (hM : LM m M) (hP : x_PR X P R) (v : Int32) : am_W sc 76 0 [.ref M, .int v] [] (xm m M X) (am_R1 (some (.int (x_b (x_rg v 0 ((P : Int) - 1))))) (xm m M X)) := by
  refine am_iload_n iX7_isPart_0 rfl rfl ?_
  refine am_i2l iX7_isPart_1 ?_
  refine am_lconst (i := 0) (v := 0) rfl iX7_isPart_2 ?_
  refine am_aload_n iX7_isPart_3 rfl rfl ?_
  refine x_getI hM iX7_isPart_4 fX7_isPart_114 ?_
  refine am_iconst (i := 1) (v := 1) rfl iX7_isPart_7 ?_
  refine am_isub iX7_isPart_8 ?_
  refine am_i2l iX7_isPart_9 ?_
  refine am_cS3r iX7_isPart_10 cX7_isPart_148 mX7_in rfl rfl rfl (x_in _ _ _) ?_
  exact am_zret iX7_isPart_13 rfl (x_b01 _) (⟨by rw [hP.1, x_rgL, x_sub1 hP.2.2.1 (by have := hP.2.2.2.1; omega)]; rfl, rfl⟩)
def x_th (X : ms_X) (t : Int32) : ms_X := xU X 0 2 t
def x_home (X : ms_X) (R : Nat) (s r : Int32) : Int32 × ms_X := if (x_rg s 0 7 && x_rg r 0 ((R : Int) - 1)) = true then (X.1 20 (nt s), xU (x_th X 0) 20 (nt s) r) else (0, x_th X 1)
theorem x_home_ok {sc : Nat × (Nat → Int32)} {m : am_Mem} {M : Nat} {X : ms_X} {P R : Nat} (hM : LM m M) (hP : x_PR X P R) (s r : Int32) : am_W sc 78 0 [.ref M, .int s, .int r, .retAddr 1] [] (xm m M X) (am_R1 (some (.int (x_home X R s r).1)) (xm m M (x_home X R s r).2)) := by
  unfold x_home
  refine am_aload_n iX7_home_0 rfl rfl ?_
  refine am_iload_n iX7_home_1 rfl rfl ?_
  refine am_cS1r iX7_home_2 cX7_home_152 mX7_isSession rfl rfl rfl (x_isSession _) ?_
  cases hs : x_rg s 0 7
  · refine am_if_eq iX7_home_5 (fun _ => ?_) (fun hc => absurd (by decide) hc)
    refine am_iconst (i := 1) (v := 1) rfl iX7_home_20 ?_
    refine x_putI hM iX7_home_21 fX7_home_121 rfl rfl ?_
    refine am_aload_n iX7_home_24 rfl rfl ?_
    refine x_getI hM iX7_home_25 fX7_home_121 ?_
    rw [xU_s]
    refine am_if_le iX7_home_28 (fun hc => absurd hc (by decide)) (fun _ => ?_)
    refine am_iconst (i := 0) (v := 0) rfl iX7_home_31 ?_
    exact am_iret iX7_home_32 rfl (⟨rfl, rfl⟩)
  · refine am_if_eq iX7_home_5 (fun hc => absurd hc (by decide)) (fun _ => ?_)
    obtain ⟨n, hn, hnt, rfl⟩ := x_rg_ex 8 hs (by omega)
    rw [hnt]
    refine am_aload_n iX7_home_8 rfl rfl ?_
    refine am_iload_n iX7_home_9 rfl rfl ?_
    refine am_cV1r iX7_home_10 cX7_home_162 mX7_isReplica hM.1 rfl rfl rfl (x_isReplica hM hP _) ?_
    cases hr : x_rg r 0 ((R : Int) - 1)
    · refine am_if_eq iX7_home_13 (fun _ => ?_) (fun hc => absurd (by decide) hc)
      refine am_iconst (i := 1) (v := 1) rfl iX7_home_20 ?_
      refine x_putI hM iX7_home_21 fX7_home_121 rfl rfl ?_
      refine am_aload_n iX7_home_24 rfl rfl ?_
      refine x_getI hM iX7_home_25 fX7_home_121 ?_
      rw [xU_s]
      refine am_if_le iX7_home_28 (fun hc => absurd hc (by decide)) (fun _ => ?_)
      refine am_iconst (i := 0) (v := 0) rfl iX7_home_31 ?_
      exact am_iret iX7_home_32 rfl (⟨rfl, rfl⟩)
    · refine am_if_eq iX7_home_13 (fun hc => absurd hc (by decide)) (fun _ => ?_)
      refine am_iconst (i := 0) (v := 0) rfl iX7_home_16 ?_
      refine am_goto iX7_home_17 ?_
      refine x_putI hM iX7_home_21 fX7_home_121 rfl rfl ?_
      refine am_aload_n iX7_home_24 rfl rfl ?_
      refine x_getI hM iX7_home_25 fX7_home_121 ?_
      rw [xU_s]
      refine am_if_le iX7_home_28 (fun _ => ?_) (fun hc => absurd (by decide) hc)
      refine am_aload_n iX7_home_33 rfl rfl ?_
      refine x_getR 20 hM iX7_home_34 fX7_home_69 rfl rfl rfl ?_
      refine am_iload_n iX7_home_37 rfl rfl ?_
      refine x_iald (n) hM rfl iX7_home_38 (by first | rfl | simp only [nI_add, pk_mul, nI_1, nL0, nL1, nL2, nL3, nL4, nL10, nL30, nL300, nL401]) (hn) ?_
      refine am_istore_n_3 iX7_home_39 rfl rfl ?_
      refine am_aload_n iX7_home_40 rfl rfl ?_
      refine x_getR 20 hM iX7_home_41 fX7_home_69 rfl rfl rfl ?_
      refine am_iload_n iX7_home_44 rfl rfl ?_
      refine am_iload_n iX7_home_45 rfl rfl ?_
      refine x_iast (n) hM rfl iX7_home_46 (by first | rfl | simp only [nI_add, pk_mul, nI_1, nL0, nL1, nL2, nL3, nL4, nL10, nL30, nL300, nL401]) (hn) ?_
      refine am_iload_n iX7_home_47 rfl rfl ?_
      exact am_iret iX7_home_48 rfl (⟨rfl, rfl⟩)
