/-! the reference: what is well formed; steps and ticks -/
section
variable {sc : Nat × (Nat → Int32)} {m : am_Mem} {M : Nat} {X Y : ms_X} {P R N : Nat}
def x_ws (o : Nat) : Bool := [1, 4, 5, 15, 16, 17, 18, 20, 24, 29, 30].contains o
def x_Wf (X : ms_X) (P R N : Nat) : Prop := x_PR X P R ∧ x_Rd X N ∧ (∀ p, p < 3 → x_ix (X.1 1 p) 401) ∧ (∀ r p, r < 8 → p < 3 → x_ix (X.1 15 (3 * r + p)) 401 ∧ nt (X.1 15 (3 * r + p)) ≤ nt (X.1 1 p)) ∧
  (∀ p i, p < 3 → 1 ≤ i → i ≤ nt (X.1 1 p) → x_ix (X.1 4 (401 * p + i)) 30 ∧ x_ix (X.1 5 (401 * p + i)) 10) ∧ (∀ r, r < 4 → x_ix (X.1 17 r) P ∧ x_ix (X.1 16 r) 11 ∧ (X.1 18 r = 0 ∨ X.1 18 r = 1)) ∧ ∀ s, s < 8 → x_ix (X.1 20 s) R
theorem x_Rd.cg (h : x_Rd X N) (h0 : Y.1 0 26 = X.1 0 26) (h1 : ∀ k, Y.1 24 k = X.1 24 k) (h2 : ∀ k, Y.1 29 k = X.1 29 k) (h3 : ∀ k, Y.1 30 k = X.1 30 k) : x_Rd Y N := by
  refine ⟨h0.trans h.1, h.2.1, fun k hk => ?_⟩
  rw [h1, h2, h3]
  exact h.2.2 k hk
theorem x_Wf.cg (h : x_Wf X P R N) (h0 : ∀ j, j ≠ 2 → j ≠ 3 → Y.1 0 j = X.1 0 j) (h1 : ∀ o j, x_ws o = true → Y.1 o j = X.1 o j) : x_Wf Y P R N := by
  obtain ⟨a1, a2, a3, a4, a5, a6, a7⟩ := h
  refine ⟨a1.cg (h0 0 (by decide) (by decide)) (h0 1 (by decide) (by decide)), a2.cg (h0 26 (by decide) (by decide)) (fun k => h1 24 k rfl) (fun k => h1 29 k rfl) (fun k => h1 30 k rfl), fun p hp => ?_, fun r p hr hp => ?_, fun p i hp h2 h3 => ?_, fun r hr => ?_, fun s hs => ?_⟩
  · rw [h1 1 _ rfl]; exact a3 p hp
  · rw [h1 15 _ rfl, h1 1 _ rfl]; exact a4 r p hr hp
  · rw [h1 1 _ rfl] at h3
    rw [h1 4 _ rfl, h1 5 _ rfl]; exact a5 p i hp h2 h3
  · rw [h1 17 _ rfl, h1 16 _ rfl, h1 18 _ rfl]; exact a6 r hr
  · rw [h1 20 _ rfl]; exact a7 s hs
theorem x_takeI_o (X : ms_X) (i c h : Nat) (n kd : Int32) {a j : Nat} (h8 : a ≠ 8) (h9 : a ≠ 9) (h10 : a ≠ 10) (h11 : a ≠ 11) (h12 : a ≠ 12) (h14 : a ≠ 14) : (x_takeI X i c h n kd).1 a j = X.1 a j := by
  unfold x_takeI
  repeat' split
  all_goals first | rfl | (simp only [xU_o _ _ h8, xU_o _ _ h9, xU_o _ _ h10, xU_o _ _ h11, xU_o _ _ h12, xU_o _ _ h14, xV_I])
theorem x_take_o (X : ms_X) (r k : Nat) {a j : Nat} (h8 : a ≠ 8) (h9 : a ≠ 9) (h10 : a ≠ 10) (h11 : a ≠ 11) (h12 : a ≠ 12) (h14 : a ≠ 14) : (x_take X r k).1 a j = X.1 a j := x_takeI_o X _ _ _ _ _ h8 h9 h10 h11 h12 h14
theorem x_ws_ne {o : Nat} (h : x_ws o = true) : o ≠ 0 ∧ o ≠ 8 ∧ o ≠ 9 ∧ o ≠ 10 ∧ o ≠ 11 ∧ o ≠ 12 ∧ o ≠ 14 ∧ o ≠ 22 ∧ o ≠ 23 ∧ o ≠ 31 ∧ o ≠ 34 ∧ o ≠ 2 ∧ o ≠ 19 ∧ o ≠ 21 := by
  simp [x_ws] at h
  omega
theorem x_Wf.take (h : x_Wf X P R N) (r k : Nat) : x_Wf (x_take X r k) P R N :=
  h.cg (fun j _ _ => x_take_o X r k (by decide) (by decide) (by decide) (by decide) (by decide) (by decide)) (fun o j ho => by obtain ⟨-, b1, b2, b3, b4, b5, b6, -⟩ := x_ws_ne ho; exact x_take_o X r k b1 b2 b3 b4 b5 b6)
theorem x_Wf.look (h : x_Wf X P R N) (r n : Nat) : x_Wf (x_lookN X P r n) P R N :=
  h.cg (fun j _ _ => x_look_o X P r (by decide) (by decide) (by decide) (by decide) n) (fun o j ho => by obtain ⟨-, -, -, -, -, -, -, b1, b2, b3, b4, -⟩ := x_ws_ne ho; exact x_look_o X P r b1 b2 b3 b4 n)
theorem x_Wf.fail (h : x_Wf X P R N) (k : Nat) : x_Wf (x_fail X k) P R N :=
  h.cg (fun j _ _ => by unfold x_fail; rw [xU_o _ _ (by decide), xU_o _ _ (by decide)]) (fun o j ho => by obtain ⟨-, -, -, -, -, -, -, -, b2, -, b4, -⟩ := x_ws_ne ho; unfold x_fail; rw [xU_o _ _ b4, xU_o _ _ b2])
theorem x_Wf.th (h : x_Wf X P R N) (t : Int32) : x_Wf (x_th X t) P R N :=
  h.cg (fun j h2 _ => xU_j _ _ h2) (fun o j ho => xU_o _ _ (x_ws_ne ho).1)
/-- the middle of a step: it was taken, AT and where the next tick begins are set -/
def x_adv1 (X : ms_X) (P r p : Nat) : ms_X :=
  let A := x_take X r (401 * p + nt (X.1 15 (3 * r + p)) + 1)
  let B := xU A 15 (3 * r + p) (A.1 15 (3 * r + p) + 1)
  xU B 17 r (nI ((p + 1) % P))
def x_adv (X : ms_X) (P N r p : Nat) : Int32 × ms_X :=
  if X.1 15 (3 * r + p) = X.1 1 p then (0, X) else if x_cov X 7 (3 * (401 * p + nt (X.1 15 (3 * r + p)) + 1)) r P = false then (-1, X) else (1, x_lookN (x_adv1 X P r p) P r N)
theorem x_adv_lt (h : x_Wf X P R N) {r p : Nat} (hr : r < 8) (hp : p < 3) (hne : ¬ X.1 15 (3 * r + p) = X.1 1 p) : nt (X.1 15 (3 * r + p)) < nt (X.1 1 p) ∧ nt (X.1 1 p) ≤ 400 := by
  obtain ⟨h1, h2⟩ := h.2.2.2.1 r p hr hp
  have h3 := h.2.2.1 p hp
  refine ⟨?_, by have := h3.1; omega⟩
  rcases Nat.lt_or_ge (nt (X.1 15 (3 * r + p))) (nt (X.1 1 p)) with q | q
  · exact q
  · exact absurd (h1.2.trans ((congrArg nI (Nat.le_antisymm h2 q)).trans h3.2.symm)) hne
theorem x_Wf.adv1 (h : x_Wf X P R N) {r p : Nat} (hr : r < 4) (hp : p < P) (hne : ¬ X.1 15 (3 * r + p) = X.1 1 p) : x_Wf (x_adv1 X P r p) P R N := by
  have hP3 := h.1.2.2.2.1
  obtain ⟨l1, l2⟩ := x_adv_lt h (by omega) (show p < 3 by omega) hne
  have hT := h.take r (401 * p + nt (X.1 15 (3 * r + p)) + 1)
  have eA : ∀ j, (x_take X r (401 * p + nt (X.1 15 (3 * r + p)) + 1)).1 15 j = X.1 15 j := fun j => x_take_o X r _ (by decide) (by decide) (by decide) (by decide) (by decide) (by decide)
  have eE : ∀ j, (x_take X r (401 * p + nt (X.1 15 (3 * r + p)) + 1)).1 1 j = X.1 1 j := fun j => x_take_o X r _ (by decide) (by decide) (by decide) (by decide) (by decide) (by decide)
  have hnew : (x_take X r (401 * p + nt (X.1 15 (3 * r + p)) + 1)).1 15 (3 * r + p) + 1 = nI (nt (X.1 15 (3 * r + p)) + 1) := by
    rw [eA, ← nI_1, ← (h.2.2.2.1 r p (by omega) (by omega)).1.2]
  obtain ⟨a1, a2, a3, a4, a5, a6, a7⟩ := hT
  unfold x_adv1
  dsimp only
  rw [hnew]
  refine ⟨a1, a2, a3, fun r' p' hr' hp' => ?_, a5, fun r' hr' => ?_, a7⟩
  · rw [xU_o _ _ (by decide)]
    show x_ix ((xU _ 15 (3 * r + p) _).1 15 (3 * r' + p')) 401 ∧ nt ((xU _ 15 (3 * r + p) _).1 15 (3 * r' + p')) ≤ nt ((x_take X r _).1 1 p')
    by_cases e : 3 * r' + p' = 3 * r + p
    · have e1 : r' = r := by omega
      have e2 : p' = p := by omega
      subst e1
      subst e2
      rw [xU_s, nt_nI (by omega), eE]
      exact ⟨x_ix_nI (by omega) (by omega), l1⟩
    · rw [xU_j _ _ e]
      exact a4 r' p' hr' hp'
  · show x_ix ((xU _ 17 r _).1 17 r') P ∧ x_ix ((xU _ 17 r _).1 16 r') 11 ∧ ((xU _ 17 r _).1 18 r' = 0 ∨ (xU _ 17 r _).1 18 r' = 1)
    have b := a6 r' hr'
    refine ⟨?_, b.2⟩
    by_cases e : r' = r
    · subst e
      rw [xU_s]
      exact x_ix_nI (Nat.mod_lt _ (by omega)) (Nat.lt_of_lt_of_le (Nat.mod_lt _ (by omega)) (by omega))
    · rw [xU_j _ _ e]
      exact b.1
theorem x_Wf.adv (h : x_Wf X P R N) {r p : Nat} (hr : r < 4) (hp : p < P) : x_Wf (x_adv X P N r p).2 P R N := by
  unfold x_adv
  split
  · exact h
  · split
    · exact h
    · rename_i h1 _
      exact (h.adv1 hr hp h1).look r N
set_option maxHeartbeats 1000000 in
theorem x_advance_ok (hM : LM m M) (hW : x_Wf X P R N) {r p : Nat} (hr : r < 4) (hp : p < P) : am_W sc 82 0 [.ref M, .int (nI r), .int (nI p), .retAddr 1] [] (xm m M X) (am_R1 (some (.int (x_adv X P N r p).1)) (xm m M (x_adv X P N r p).2)) := by
  have hP := hW.1
  have hP4 := hP.2.2.2.1
  have b1 : 3 * r + p < 24 := by omega
  obtain ⟨w1, w2⟩ := hW.2.2.2.1 r p (by omega) (by omega)
  have w3 := hW.2.2.1 p (by omega)
  unfold x_adv
  refine am_aload_n iX7_advance_0 rfl rfl ?_
  refine x_getR 15 hM iX7_advance_1 fX7_advance_53 rfl rfl rfl ?_
  refine am_iconst (i := 3) (v := 3) rfl iX7_advance_4 ?_
  refine am_iload_n iX7_advance_5 rfl rfl ?_
  refine am_imul iX7_advance_6 ?_
  refine am_iload_n iX7_advance_7 rfl rfl ?_
  refine am_iadd iX7_advance_8 ?_
  refine x_iald (3 * r + p) hM rfl iX7_advance_9 (by first | rfl | simp only [nI_add, pk_mul, nI_1, nL0, nL1, nL2, nL3, nL4, nL10, nL30, nL300, nL401]) (b1) ?_
  refine am_aload_n iX7_advance_10 rfl rfl ?_
  refine x_getR 1 hM iX7_advance_11 fX7_advance_7 rfl rfl rfl ?_
  refine am_iload_n iX7_advance_14 rfl rfl ?_
  refine x_iald (p) hM rfl iX7_advance_15 (by first | rfl | simp only [nI_add, pk_mul, nI_1, nL0, nL1, nL2, nL3, nL4, nL10, nL30, nL300, nL401]) ((show p < 3 by omega)) ?_
  refine am_icmp_ne iX7_advance_16 (fun h1 => ?_) (fun h1 => ?_)
  · rw [if_neg h1]
    obtain ⟨l1, l2⟩ := x_adv_lt hW (by omega) (show p < 3 by omega) h1
    refine am_sipush (i := 401) (v := 401) rfl iX7_advance_21 ?_
    refine am_iload_n iX7_advance_24 rfl rfl ?_
    refine am_imul iX7_advance_25 ?_
    refine am_aload_n iX7_advance_26 rfl rfl ?_
    refine x_getR 15 hM iX7_advance_27 fX7_advance_53 rfl rfl rfl ?_
    refine am_iconst (i := 3) (v := 3) rfl iX7_advance_30 ?_
    refine am_iload_n iX7_advance_31 rfl rfl ?_
    refine am_imul iX7_advance_32 ?_
    refine am_iload_n iX7_advance_33 rfl rfl ?_
    refine am_iadd iX7_advance_34 ?_
    refine x_iald (3 * r + p) hM rfl iX7_advance_35 (by first | rfl | simp only [nI_add, pk_mul, nI_1, nL0, nL1, nL2, nL3, nL4, nL10, nL30, nL300, nL401]) (b1) ?_
    generalize hg : nt (X.1 15 (3 * r + p)) = t at w2 l1 ⊢
    have w4 : X.1 15 (3 * r + p) = nI t := by rw [← hg]; exact w1.2
    rw [w4]
    have q1 : (401 : Int32) * nI p + nI t + 1 = nI (401 * p + t + 1) := by simp only [nI_add, nI_1, pk_mul, nL401]
    refine am_iadd iX7_advance_36 ?_
    refine am_iconst (i := 1) (v := 1) rfl iX7_advance_37 ?_
    refine am_iadd iX7_advance_38 ?_
    rw [q1]
    refine am_istore_n_3 iX7_advance_39 rfl rfl ?_
    refine am_aload_n iX7_advance_40 rfl rfl ?_
    refine am_aload_n iX7_advance_41 rfl rfl ?_
    refine x_getR 7 hM iX7_advance_42 fX7_advance_28 rfl rfl rfl ?_
    refine am_iconst (i := 3) (v := 3) rfl iX7_advance_45 ?_
    refine am_iload_n iX7_advance_46 rfl rfl ?_
    refine am_imul iX7_advance_47 ?_
    rw [show (3 : Int32) * nI (401 * p + t + 1) = nI (3 * (401 * p + t + 1)) by simp only [pk_mul, nL3]]
    refine am_iload_n iX7_advance_48 rfl rfl ?_
    refine am_cV3r iX7_advance_49 cX7_advance_185 mX7_covers hM.1 rfl rfl rfl (x_covers hM hP 7 (3 * (401 * p + t + 1)) r rfl (show 3 * (401 * p + t + 1) + 3 ≤ 3609 by omega) (by omega)) ?_
    cases c1 : x_cov X 7 (3 * (401 * p + t + 1)) r P
    · refine am_if_ne iX7_advance_52 (fun hc => absurd (by decide) hc) (fun _ => ?_)
      refine am_iconst (i := -1) (v := -1) rfl iX7_advance_55 ?_
      exact am_iret iX7_advance_56 rfl (⟨rfl, rfl⟩)
    · refine am_if_ne iX7_advance_52 (fun _ => ?_) (fun hc => absurd hc (by decide))
      rw [if_neg (by decide)]
      obtain ⟨v1, v2⟩ := hW.2.2.2.2.1 p (t + 1) (by omega) (by omega) (by omega)
      refine am_aload_n iX7_advance_57 rfl rfl ?_
      refine am_iload_n iX7_advance_58 rfl rfl ?_
      refine am_iload_n iX7_advance_59 rfl rfl ?_
      refine am_cV2v iX7_advance_60 cX7_advance_189 mX7_take hM.1 rfl rfl rfl (x_take_ok hM (show r < 8 by omega) (show 401 * p + t + 1 < 1203 by omega) v1 v2) ?_
      refine am_aload_n iX7_advance_63 rfl rfl ?_
      refine x_getR 15 hM iX7_advance_64 fX7_advance_53 rfl rfl rfl ?_
      refine am_iconst (i := 3) (v := 3) rfl iX7_advance_67 ?_
      refine am_iload_n iX7_advance_68 rfl rfl ?_
      refine am_imul iX7_advance_69 ?_
      refine am_iload_n iX7_advance_70 rfl rfl ?_
      refine am_iadd iX7_advance_71 ?_
      refine am_dup2 iX7_advance_72 rfl rfl ?_
      refine x_iald (3 * r + p) hM rfl iX7_advance_73 (by first | rfl | simp only [nI_add, pk_mul, nI_1, nL0, nL1, nL2, nL3, nL4, nL10, nL30, nL300, nL401]) (b1) ?_
      refine am_iconst (i := 1) (v := 1) rfl iX7_advance_74 ?_
      refine am_iadd iX7_advance_75 ?_
      refine x_iast (3 * r + p) hM rfl iX7_advance_76 (by first | rfl | simp only [nI_add, pk_mul, nI_1, nL0, nL1, nL2, nL3, nL4, nL10, nL30, nL300, nL401]) (b1) ?_
      refine am_aload_n iX7_advance_77 rfl rfl ?_
      refine x_getR 17 hM iX7_advance_78 fX7_advance_59 rfl rfl rfl ?_
      refine am_iload_n iX7_advance_81 rfl rfl ?_
      refine am_iload_n iX7_advance_82 rfl rfl ?_
      refine am_iconst (i := 1) (v := 1) rfl iX7_advance_83 ?_
      refine am_iadd iX7_advance_84 ?_
      refine am_aload_n iX7_advance_85 rfl rfl ?_
      refine x_getI hM iX7_advance_86 fX7_advance_114 ?_
      have e0 : (xU (x_take X r (401 * p + t + 1)) 15 (3 * r + p) ((x_take X r (401 * p + t + 1)).1 15 (3 * r + p) + 1)).1 0 0 = nI P := by
        rw [xU_o _ _ (by decide), x_take_o _ _ _ (by decide) (by decide) (by decide) (by decide) (by decide) (by decide)]; exact hP.1
      rw [e0, nI_1]
      refine am_irem (fun q => absurd ((nI_eq (a := P) (b := 0) (by omega) (by omega)).mp q) (by omega)) iX7_advance_89 ?_
      rw [pk_rem (by omega) (by omega) (by omega)]
      refine x_iast (r) hM rfl iX7_advance_90 (by first | rfl | simp only [nI_add, pk_mul, nI_1, nL0, nL1, nL2, nL3, nL4, nL10, nL30, nL300, nL401]) (hr) ?_
      refine am_aload_n iX7_advance_91 rfl rfl ?_
      refine am_iload_n iX7_advance_92 rfl rfl ?_
      have e1 : xU (xU (x_take X r (401 * p + t + 1)) 15 (3 * r + p) ((x_take X r (401 * p + t + 1)).1 15 (3 * r + p) + 1)) 17 r (nI ((p + 1) % P)) = x_adv1 X P r p := by
        unfold x_adv1
        rw [hg]
      rw [e1]
      have hW1 := hW.adv1 hr hp h1
      refine am_cV1v iX7_advance_93 cX7_advance_158 mX7_look hM.1 rfl rfl rfl (x_look_ok hM hW1.1 hW1.2.1 hr) ?_
      refine am_iconst (i := 1) (v := 1) rfl iX7_advance_96 ?_
      exact am_iret iX7_advance_97 rfl (⟨rfl, rfl⟩)
  · rw [if_pos h1]
    refine am_iconst (i := 0) (v := 0) rfl iX7_advance_19 ?_
    exact am_iret iX7_advance_20 rfl (⟨rfl, rfl⟩)
def x_step (X : ms_X) (P R N : Nat) (r p : Int32) : Int32 × ms_X :=
  if (x_rg r 0 ((R : Int) - 1) && x_rg p 0 ((P : Int) - 1)) = true then (if X.1 18 (nt r) = 0 then (-2, x_th X 0) else x_adv (x_th X 0) P N (nt r) (nt p)) else (0, x_th X 1)
theorem x_step_ok (hM : LM m M) (hW : x_Wf X P R N) (r p : Int32) : am_W sc 83 0 [.ref M, .int r, .int p] [] (xm m M X) (am_R1 (some (.int (x_step X P R N r p).1)) (xm m M (x_step X P R N r p).2)) := by
  have hP := hW.1
  unfold x_step
  refine am_aload_n iX7_step_0 rfl rfl ?_
  refine am_aload_n iX7_step_1 rfl rfl ?_
  refine am_iload_n iX7_step_2 rfl rfl ?_
  refine am_cV1r iX7_step_3 cX7_step_162 mX7_isReplica hM.1 rfl rfl rfl (x_isReplica hM hP _) ?_
  cases hr : x_rg r 0 ((R : Int) - 1)
  · refine am_if_eq iX7_step_6 (fun _ => ?_) (fun hc => absurd (by decide) hc)
    refine am_iconst (i := 1) (v := 1) rfl iX7_step_21 ?_
    refine x_putI hM iX7_step_22 fX7_step_121 rfl rfl ?_
    refine am_aload_n iX7_step_25 rfl rfl ?_
    refine x_getI hM iX7_step_26 fX7_step_121 ?_
    rw [xU_s]
    refine am_if_le iX7_step_29 (fun hc => absurd hc (by decide)) (fun _ => ?_)
    refine am_iconst (i := 0) (v := 0) rfl iX7_step_32 ?_
    refine am_goto iX7_step_33 ?_
    exact am_iret iX7_step_56 rfl (⟨rfl, rfl⟩)
  · refine am_if_eq iX7_step_6 (fun hc => absurd hc (by decide)) (fun _ => ?_)
    refine am_aload_n iX7_step_9 rfl rfl ?_
    refine am_iload_n iX7_step_10 rfl rfl ?_
    refine am_cV1r iX7_step_11 cX7_step_193 mX7_isPart hM.1 rfl rfl rfl (x_isPart hM hP _) ?_
    cases hp : x_rg p 0 ((P : Int) - 1)
    · refine am_if_eq iX7_step_14 (fun _ => ?_) (fun hc => absurd (by decide) hc)
      refine am_iconst (i := 1) (v := 1) rfl iX7_step_21 ?_
      refine x_putI hM iX7_step_22 fX7_step_121 rfl rfl ?_
      refine am_aload_n iX7_step_25 rfl rfl ?_
      refine x_getI hM iX7_step_26 fX7_step_121 ?_
      rw [xU_s]
      refine am_if_le iX7_step_29 (fun hc => absurd hc (by decide)) (fun _ => ?_)
      refine am_iconst (i := 0) (v := 0) rfl iX7_step_32 ?_
      refine am_goto iX7_step_33 ?_
      exact am_iret iX7_step_56 rfl (⟨rfl, rfl⟩)
    · refine am_if_eq iX7_step_14 (fun hc => absurd hc (by decide)) (fun _ => ?_)
      obtain ⟨n, hn, hnt, rfl⟩ := x_rg_ex 4 hr (by have := hP.2.2.2.2.2; omega)
      obtain ⟨j, hj, hjt, rfl⟩ := x_rg_ex P hp (by have := hP.2.2.2.1; omega)
      rw [hnt, hjt, if_pos (show (true && true) = true from rfl)]
      refine am_iconst (i := 0) (v := 0) rfl iX7_step_17 ?_
      refine am_goto iX7_step_18 ?_
      refine x_putI hM iX7_step_22 fX7_step_121 rfl rfl ?_
      refine am_aload_n iX7_step_25 rfl rfl ?_
      refine x_getI hM iX7_step_26 fX7_step_121 ?_
      rw [xU_s]
      refine am_if_le iX7_step_29 (fun _ => ?_) (fun hc => absurd (by decide) hc)
      refine am_aload_n iX7_step_36 rfl rfl ?_
      refine x_getR 18 hM iX7_step_37 fX7_step_62 rfl rfl rfl ?_
      refine am_iload_n iX7_step_40 rfl rfl ?_
      refine x_zald (n) hM rfl iX7_step_41 (by first | rfl | simp only [nI_add, pk_mul, nI_1, nL0, nL1, nL2, nL3, nL4, nL10, nL30, nL300, nL401]) (hn) ?_
      rw [xU_o _ _ (by decide)]
      refine am_if_eq iX7_step_42 (fun h1 => ?_) (fun h1 => ?_)
      · rw [if_pos h1]
        refine am_bipush (i := -2) (v := -2) rfl iX7_step_54 ?_
        exact am_iret iX7_step_56 rfl (⟨rfl, rfl⟩)
      · rw [if_neg h1]
        refine am_aload_n iX7_step_45 rfl rfl ?_
        refine am_iload_n iX7_step_46 rfl rfl ?_
        refine am_iload_n iX7_step_47 rfl rfl ?_
        refine am_cV2r iX7_step_48 cX7_step_196 mX7_advance hM.1 rfl rfl rfl (x_advance_ok hM (hW.th 0) hn hj) ?_
        refine am_goto iX7_step_51 ?_
        exact am_iret iX7_step_56 rfl (⟨rfl, rfl⟩)
def x_up (X : ms_X) (P R N : Nat) (r b : Int32) : Int32 × ms_X :=
  if x_rg r 0 ((R : Int) - 1) = true then (X.1 18 (nt r), if b = 0 then xU (x_th X 0) 18 (nt r) b else if X.1 18 (nt r) = 0 then x_lookN (xU (x_th X 0) 18 (nt r) b) P (nt r) N else xU (x_th X 0) 18 (nt r) b) else (0, x_th X 1)
theorem x_up_ok (hM : LM m M) (hW : x_Wf X P R N) (r b : Int32) (hb : b = 0 ∨ b = 1) : am_W sc 88 0 [.ref M, .int r, .int b, .retAddr 1] [] (xm m M X) (am_R1 (some (.int (x_up X P R N r b).1)) (xm m M (x_up X P R N r b).2)) := by
  have hP := hW.1
  unfold x_up
  refine am_aload_n iX7_up_0 rfl rfl ?_
  refine am_aload_n iX7_up_1 rfl rfl ?_
  refine am_iload_n iX7_up_2 rfl rfl ?_
  refine am_cV1r iX7_up_3 cX7_up_162 mX7_isReplica hM.1 rfl rfl rfl (x_isReplica hM hP _) ?_
  cases hr : x_rg r 0 ((R : Int) - 1)
  · refine am_if_eq iX7_up_6 (fun _ => ?_) (fun hc => absurd (by decide) hc)
    refine am_iconst (i := 1) (v := 1) rfl iX7_up_13 ?_
    refine x_putI hM iX7_up_14 fX7_up_121 rfl rfl ?_
    refine am_aload_n iX7_up_17 rfl rfl ?_
    refine x_getI hM iX7_up_18 fX7_up_121 ?_
    rw [xU_s]
    refine am_if_le iX7_up_21 (fun hc => absurd hc (by decide)) (fun _ => ?_)
    refine am_iconst (i := 0) (v := 0) rfl iX7_up_24 ?_
    exact am_zret iX7_up_25 rfl (by first | exact Or.inl rfl | exact Or.inr rfl) (⟨rfl, rfl⟩)
  · refine am_if_eq iX7_up_6 (fun hc => absurd hc (by decide)) (fun _ => ?_)
    obtain ⟨n, hn, hnt, rfl⟩ := x_rg_ex 4 hr (by have := hP.2.2.2.2.2; omega)
    rw [hnt, if_pos rfl]
    refine am_iconst (i := 0) (v := 0) rfl iX7_up_9 ?_
    refine am_goto iX7_up_10 ?_
    refine x_putI hM iX7_up_14 fX7_up_121 rfl rfl ?_
    refine am_aload_n iX7_up_17 rfl rfl ?_
    refine x_getI hM iX7_up_18 fX7_up_121 ?_
    rw [xU_s]
    refine am_if_le iX7_up_21 (fun _ => ?_) (fun hc => absurd (by decide) hc)
    have hu := (hW.2.2.2.2.2.1 n hn).2.2
    refine am_aload_n iX7_up_26 rfl rfl ?_
    refine x_getR 18 hM iX7_up_27 fX7_up_62 rfl rfl rfl ?_
    refine am_iload_n iX7_up_30 rfl rfl ?_
    refine x_zald (n) hM rfl iX7_up_31 (by first | rfl | simp only [nI_add, pk_mul, nI_1, nL0, nL1, nL2, nL3, nL4, nL10, nL30, nL300, nL401]) (hn) ?_
    refine am_istore_n_3 iX7_up_32 rfl rfl ?_
    refine am_aload_n iX7_up_33 rfl rfl ?_
    refine x_getR 18 hM iX7_up_34 fX7_up_62 rfl rfl rfl ?_
    refine am_iload_n iX7_up_37 rfl rfl ?_
    refine am_iload_n iX7_up_38 rfl rfl ?_
    refine x_zast (n) hM rfl iX7_up_39 (by first | rfl | simp only [nI_add, pk_mul, nI_1, nL0, nL1, nL2, nL3, nL4, nL10, nL30, nL300, nL401]) (hn) (hb) ?_
    rw [xU_o _ _ (by decide)]
    refine am_iload_n iX7_up_40 rfl rfl ?_
    refine am_if_eq iX7_up_41 (fun h1 => ?_) (fun h1 => ?_)
    · rw [if_pos h1]
      refine am_iload_n iX7_up_53 rfl rfl ?_
      exact am_zret iX7_up_54 rfl (hu) (⟨rfl, rfl⟩)
    · rw [if_neg h1]
      refine am_iload_n iX7_up_44 rfl rfl ?_
      refine am_if_ne iX7_up_45 (fun h2 => ?_) (fun h2 => ?_)
      · rw [if_neg h2]
        refine am_iload_n iX7_up_53 rfl rfl ?_
        exact am_zret iX7_up_54 rfl (hu) (⟨rfl, rfl⟩)
      · rw [if_pos h2]
        refine am_aload_n iX7_up_48 rfl rfl ?_
        refine am_iload_n iX7_up_49 rfl rfl ?_
        refine am_cV1v iX7_up_50 cX7_up_158 mX7_look hM.1 rfl rfl rfl (x_look_ok hM (P := P) (R := R) (N := N) (X := xU (x_th X 0) 18 n b) hP hW.2.1 hn) ?_
        refine am_iload_n iX7_up_53 rfl rfl ?_
        exact am_zret iX7_up_54 rfl (hu) (⟨rfl, rfl⟩)
end
