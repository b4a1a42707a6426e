/-! the reference: ticks, modes -/
section
variable {sc : Nat × (Nat → Int32)} {m : am_Mem} {M : Nat} {X Y : ms_X} {P R N : Nat}
def x_run (P N r : Nat) : Nat → Nat → Nat → Nat → ms_X → Nat × ms_X
  | 0, took, _, _, X => (took, X)
  | f + 1, took, missed, p, X => if ¬ X.1 18 r = 0 ∧ nI took < X.1 16 r ∧ missed < P then
      (if (x_adv X P N r p).1 = 1 then x_run P N r f (took + 1) 0 ((p + 1) % P) (x_adv X P N r p).2 else x_run P N r f took (missed + 1) ((p + 1) % P) (x_adv X P N r p).2) else (took, X)
theorem x_Wf.run {r : Nat} (hr : r < 4) : ∀ (f took missed p : Nat) (X : ms_X), x_Wf X P R N → p < P → x_Wf (x_run P N r f took missed p X).2 P R N
  | 0, _, _, _, _, h, _ => h
  | f + 1, took, missed, p, X, h, hp => by
    unfold x_run
    have h1 := h.adv (r := r) hr hp
    have h2 : (p + 1) % P < P := Nat.mod_lt _ (by omega)
    split
    · split
      · exact x_Wf.run hr f _ _ _ _ h1 h2
      · exact x_Wf.run hr f _ _ _ _ h1 h2
    · exact h
theorem x_adv_th (X : ms_X) (P N r p : Nat) {j : Nat} : (x_adv X P N r p).2.1 0 j = X.1 0 j := by
  unfold x_adv
  split
  · rfl
  · split
    · rfl
    · show (x_lookN _ P r N).1 0 j = _
      rw [x_look_o _ _ _ (by decide) (by decide) (by decide) (by decide)]
      unfold x_adv1
      rw [xU_o _ _ (by decide), xU_o _ _ (by decide), x_take_o _ _ _ (by decide) (by decide) (by decide) (by decide) (by decide) (by decide)]
theorem x_run_th (P N r : Nat) {j : Nat} : ∀ (f took missed p : Nat) (X : ms_X), (x_run P N r f took missed p X).2.1 0 j = X.1 0 j
  | 0, _, _, _, _ => rfl
  | f + 1, took, missed, p, X => by
    unfold x_run
    split
    · split
      · rw [x_run_th P N r f, x_adv_th]
      · rw [x_run_th P N r f, x_adv_th]
    · rfl
theorem x_run_le (P N r : Nat) : ∀ (f took missed p : Nat) (X : ms_X), (x_run P N r f took missed p X).1 ≤ took + f
  | 0, _, _, _, _ => Nat.le_refl _
  | f + 1, took, missed, p, X => by
    unfold x_run
    split
    · split
      · have := x_run_le P N r f (took + 1) 0 ((p + 1) % P) (x_adv X P N r p).2; omega
      · have := x_run_le P N r f took (missed + 1) ((p + 1) % P) (x_adv X P N r p).2; omega
    · show took ≤ _; omega
set_option maxHeartbeats 1000000 in
theorem x_run_ok (hM : LM m M) {Q : am_Out → am_Mem → Prop} {r : Nat} (hr : r < 4) (all : Int32) : ∀ (f took missed p : Nat) (X : ms_X), (10 - took) * 4 + (3 - missed) < f → x_Wf X P R N → p < P → missed ≤ 3 → took ≤ 10 →
    (∀ v4 v5 : Int32, am_W sc 85 100 [.ref M, .int all, .int (nI r), .int (nI (x_run P N r f took missed p X).1), .int v4, .int v5] [] (xm m M (x_run P N r f took missed p X).2) Q) →
    am_W sc 85 35 [.ref M, .int all, .int (nI r), .int (nI took), .int (nI missed), .int (nI p)] [] (xm m M X) Q := by
  intro f
  induction f with
  | zero => intro took missed p X h; omega
  | succ f ih =>
    intro took missed p X hmu hW hp hm ht hend
    have hP4 := hW.1.2.2.2.1
    have hP1 := hW.1.1
    have e0 : x_run P N r (f + 1) took missed p X = if ¬ X.1 18 r = 0 ∧ nI took < X.1 16 r ∧ missed < P then
      (if (x_adv X P N r p).1 = 1 then x_run P N r f (took + 1) 0 ((p + 1) % P) (x_adv X P N r p).2 else x_run P N r f took (missed + 1) ((p + 1) % P) (x_adv X P N r p).2) else (took, X) := rfl
    rw [e0] at hend
    obtain ⟨sp, hsp, -, hsp2⟩ := x_ix_ex (hW.2.2.2.2.2.1 r hr).2.1
    refine am_aload_n iX7_tick_35 rfl rfl ?_
    refine x_getR 18 hM iX7_tick_36 fX7_tick_62 rfl rfl rfl ?_
    refine am_iload_n iX7_tick_39 rfl rfl ?_
    refine x_zald (r) hM rfl iX7_tick_40 (by first | rfl | simp only [nI_add, pk_mul, nI_1, nL0, nL1, nL2, nL3, nL4, nL10, nL30, nL300, nL401]) (hr) ?_
    refine am_if_eq iX7_tick_41 (fun h1 => ?_) (fun h1 => ?_)
    · rw [if_neg (fun q => q.1 h1)] at hend
      exact hend _ _
    refine am_iload_n iX7_tick_44 rfl rfl ?_
    refine am_aload_n iX7_tick_45 rfl rfl ?_
    refine x_getR 16 hM iX7_tick_46 fX7_tick_56 rfl rfl rfl ?_
    refine am_iload_n iX7_tick_49 rfl rfl ?_
    refine x_iald (r) hM rfl iX7_tick_50 (by first | rfl | simp only [nI_add, pk_mul, nI_1, nL0, nL1, nL2, nL3, nL4, nL10, nL30, nL300, nL401]) (hr) ?_
    refine am_icmp_ge iX7_tick_51 (fun h2 => ?_) (fun h2 => ?_)
    · rw [if_neg (fun q => absurd q.2.1 (Int32.not_lt.mpr h2))] at hend
      exact hend _ _
    have h2' := Int32.not_le.mp h2
    have ht2 : took < 10 := by
      rw [hsp2] at h2'
      have := (nI_ltI (by omega) (by omega)).mp h2'
      omega
    refine am_iload iX7_tick_54 rfl ?_
    refine am_aload_n iX7_tick_56 rfl rfl ?_
    refine x_getI hM iX7_tick_57 fX7_tick_114 ?_
    rw [hP1]
    refine am_icmp_ge iX7_tick_60 (fun h3 => ?_) (fun h3 => ?_)
    · rw [if_neg (fun q => absurd ((nI_leI (by omega) (by omega)).mp h3) (by omega))] at hend
      exact hend _ _
    have h3' : missed < P := Nat.lt_of_not_le (fun q => h3 ((nI_leI (by omega) (by omega)).mpr q))
    rw [if_pos ⟨h1, h2', h3'⟩] at hend
    refine am_aload_n iX7_tick_63 rfl rfl ?_
    refine am_iload_n iX7_tick_64 rfl rfl ?_
    refine am_iload iX7_tick_65 rfl ?_
    refine am_cV2r iX7_tick_67 cX7_tick_196 mX7_advance hM.1 rfl rfl rfl (x_advance_ok hM hW hr hp) ?_
    have hW2 := hW.adv (r := r) hr hp
    have hp2 : (p + 1) % P < P := Nat.mod_lt _ (by omega)
    have fin : ∀ (took' missed' : Nat), am_W sc 85 35 [.ref M, .int all, .int (nI r), .int (nI took'), .int (nI missed'), .int (nI ((p + 1) % P))] [] (xm m M (x_adv X P N r p).2) Q → am_W sc 85 86 [.ref M, .int all, .int (nI r), .int (nI took'), .int (nI missed'), .int (nI p)] [] (xm m M (x_adv X P N r p).2) Q := by
      intro took' missed' h
      refine am_iload iX7_tick_86 rfl ?_
      refine am_iconst (i := 1) (v := 1) rfl iX7_tick_88 ?_
      refine am_iadd iX7_tick_89 ?_
      refine am_aload_n iX7_tick_90 rfl rfl ?_
      refine x_getI hM iX7_tick_91 fX7_tick_114 ?_
      rw [hW2.1.1, nI_1]
      refine am_irem (fun q => absurd ((nI_eq (a := P) (b := 0) (by omega) (by omega)).mp q) (by omega)) iX7_tick_94 ?_
      rw [pk_rem (by omega) (by omega) (by omega)]
      refine am_istore_5 iX7_tick_95 rfl rfl ?_
      refine am_goto iX7_tick_97 ?_
      exact h
    refine am_iconst (i := 1) (v := 1) rfl iX7_tick_70 ?_
    refine am_icmp_ne iX7_tick_71 (fun h4 => ?_) (fun h4 => ?_)
    · rw [if_neg h4] at hend
      refine am_iinc_4 1 iX7_tick_83 rfl rfl rfl ?_
      rw [nI_1]
      exact fin took (missed + 1) (ih took (missed + 1) _ _ (by omega) hW2 hp2 (by omega) ht hend)
    · rw [if_pos h4] at hend
      refine am_iinc_3 1 iX7_tick_74 rfl rfl rfl ?_
      refine am_iconst (i := 0) (v := 0) rfl iX7_tick_77 ?_
      refine am_istore_4 iX7_tick_78 rfl rfl ?_
      refine am_goto iX7_tick_80 ?_
      rw [nI_1]
      exact fin (took + 1) 0 (ih (took + 1) 0 _ _ (by omega) hW2 hp2 (by omega) (by omega) hend)
def x_tkR (X : ms_X) (P N : Nat) : Nat → Nat × ms_X
  | 0 => (0, X)
  | r + 1 => ((x_tkR X P N r).1 + (x_run P N r 100 0 0 (nt ((x_tkR X P N r).2.1 17 r)) (x_tkR X P N r).2).1, (x_run P N r 100 0 0 (nt ((x_tkR X P N r).2.1 17 r)) (x_tkR X P N r).2).2)
theorem x_Wf.tkR (h : x_Wf X P R N) : ∀ r, r ≤ 4 → x_Wf (x_tkR X P N r).2 P R N
  | 0, _ => h
  | r + 1, hr => x_Wf.run (by omega) _ _ _ _ _ (h.tkR r (by omega)) (((h.tkR r (by omega)).2.2.2.2.2.1 r (by omega)).1.1)
theorem x_tkR_th (X : ms_X) (P N : Nat) {j : Nat} : ∀ r, (x_tkR X P N r).2.1 0 j = X.1 0 j
  | 0 => rfl
  | r + 1 => (x_run_th P N r _ _ _ _ _).trans (x_tkR_th X P N r)
def x_flN (X : ms_X) : Nat → ms_X
  | 0 => X
  | k + 1 => if (x_flN X k).1 23 k = 0 ∧ (x_flN X k).1 27 k ≤ (x_flN X k).1 0 3 - (x_flN X k).1 28 k then x_fail (x_flN X k) k else x_flN X k
theorem x_Wf.flN (h : x_Wf X P R N) : ∀ k, x_Wf (x_flN X k) P R N
  | 0 => h
  | k + 1 => by
    unfold x_flN
    split
    · exact (h.flN k).fail k
    · exact h.flN k
theorem x_flN_o (X : ms_X) {a j : Nat} (h1 : a ≠ 23) (h2 : a ≠ 34) : ∀ k, (x_flN X k).1 a j = X.1 a j
  | 0 => rfl
  | k + 1 => by
    unfold x_flN
    split
    · unfold x_fail
      rw [xU_o _ _ h2, xU_o _ _ h1]
      exact x_flN_o X h1 h2 k
    · exact x_flN_o X h1 h2 k
def x_tick (X : ms_X) (P R N : Nat) : Int32 × ms_X := (nI (x_tkR (xU X 0 3 (X.1 0 3 + 1)) P N R).1, x_flN (x_tkR (xU X 0 3 (X.1 0 3 + 1)) P N R).2 N)
theorem x_Wf.time (h : x_Wf X P R N) (t : Int32) : x_Wf (xU X 0 3 t) P R N := h.cg (fun j _ h3 => xU_j _ _ h3) (fun o j ho => xU_o _ _ (x_ws_ne ho).1)
theorem x_Wf.tick (h : x_Wf X P R N) : x_Wf (x_tick X P R N).2 P R N := ((h.time _).tkR R h.1.2.2.2.2.2).flN N
theorem x_tick_th (X : ms_X) (P R N : Nat) : (x_tick X P R N).2.1 0 2 = X.1 0 2 := by
  unfold x_tick
  rw [x_flN_o _ (by decide) (by decide), x_tkR_th, xU_j _ _ (by decide)]
set_option maxHeartbeats 1000000 in
theorem x_tick_ok (hM : LM m M) (hW : x_Wf X P R N) : am_W sc 85 0 [.ref M, .retAddr 1, .retAddr 1, .retAddr 1, .retAddr 1, .retAddr 1] [] (xm m M X) (am_R1 (some (.int (x_tick X P R N).1)) (xm m M (x_tick X P R N).2)) := by
  have hR4 := hW.1.2.2.2.2.2
  unfold x_tick
  refine am_aload_n iX7_tick_0 rfl rfl ?_
  refine am_dup iX7_tick_1 rfl ?_
  refine x_getI hM iX7_tick_2 fX7_tick_201 ?_
  refine am_iconst (i := 1) (v := 1) rfl iX7_tick_5 ?_
  refine am_iadd iX7_tick_6 ?_
  refine x_putI hM iX7_tick_7 fX7_tick_201 rfl rfl ?_
  refine am_iconst (i := 0) (v := 0) rfl iX7_tick_10 ?_
  refine am_istore_n_1 iX7_tick_11 rfl rfl ?_
  refine am_iconst (i := 0) (v := 0) rfl iX7_tick_12 ?_
  refine am_istore_n_2 iX7_tick_13 rfl rfl ?_
  have hW1 := hW.time (X.1 0 3 + 1)
  generalize xU X 0 3 (X.1 0 3 + 1) = Z at hW1 ⊢
  have hN2 := hW1.2.1.2.1
  have fails : ∀ (A : ms_X) (al : Int32), x_Wf A P R N → ∀ v3 v4 v5 : Value, ∀ d k : Nat, k + d = N → am_W sc 85 112 [.ref M, .int al, .int (nI k), v3, v4, v5] [] (xm m M (x_flN A k)) (am_R1 (some (.int al)) (xm m M (x_flN A N))) := by
    intro A al hA v3 v4 v5 d
    induction d with
    | zero =>
      intro k hk
      have e : k = N := by omega
      subst e
      refine am_iload_n iX7_tick_112 rfl rfl ?_
      refine am_aload_n iX7_tick_113 rfl rfl ?_
      refine x_getI hM iX7_tick_114 fX7_tick_204 ?_
      rw [x_flN_o _ (by decide) (by decide), hA.2.1.1]
      refine am_icmp_ge iX7_tick_117 (fun _ => ?_) (fun hc => absurd (nI_le (Nat.le_refl _) (by omega)) hc)
      refine am_iload_n iX7_tick_160 rfl rfl ?_
      exact am_iret iX7_tick_161 rfl (⟨rfl, rfl⟩)
    | succ d ih =>
      intro k hk
      have hk5 : k < 500 := by omega
      refine am_iload_n iX7_tick_112 rfl rfl ?_
      refine am_aload_n iX7_tick_113 rfl rfl ?_
      refine x_getI hM iX7_tick_114 fX7_tick_204 ?_
      rw [x_flN_o _ (by decide) (by decide), hA.2.1.1]
      refine am_icmp_ge iX7_tick_117 (fun hc => absurd hc (fun q => absurd ((nI_leI (by omega) (by omega)).mp q) (by omega))) (fun _ => ?_)
      have e1 : x_flN A (k + 1) = if (x_flN A k).1 23 k = 0 ∧ (x_flN A k).1 27 k ≤ (x_flN A k).1 0 3 - (x_flN A k).1 28 k then x_fail (x_flN A k) k else x_flN A k := rfl
      refine am_aload_n iX7_tick_120 rfl rfl ?_
      refine x_getR 23 hM iX7_tick_121 fX7_tick_78 rfl rfl rfl ?_
      refine am_iload_n iX7_tick_124 rfl rfl ?_
      refine x_iald (k) hM rfl iX7_tick_125 (by first | rfl | simp only [nI_add, pk_mul, nI_1, nL0, nL1, nL2, nL3, nL4, nL10, nL30, nL300, nL401]) (hk5) ?_
      refine am_if_ne iX7_tick_126 (fun h1 => ?_) (fun h1 => ?_)
      · rw [if_neg (fun q => h1 q.1)] at e1
        refine am_iinc_2 1 iX7_tick_154 rfl rfl rfl ?_
        refine am_goto iX7_tick_157 ?_
        rw [nI_1, ← e1]
        exact ih (k + 1) (by omega)
      · refine am_aload_n iX7_tick_129 rfl rfl ?_
        refine x_getI hM iX7_tick_130 fX7_tick_201 ?_
        refine am_aload_n iX7_tick_133 rfl rfl ?_
        refine x_getR 28 hM iX7_tick_134 fX7_tick_93 rfl rfl rfl ?_
        refine am_iload_n iX7_tick_137 rfl rfl ?_
        refine x_iald (k) hM rfl iX7_tick_138 (by first | rfl | simp only [nI_add, pk_mul, nI_1, nL0, nL1, nL2, nL3, nL4, nL10, nL30, nL300, nL401]) (hk5) ?_
        refine am_isub iX7_tick_139 ?_
        refine am_aload_n iX7_tick_140 rfl rfl ?_
        refine x_getR 27 hM iX7_tick_141 fX7_tick_90 rfl rfl rfl ?_
        refine am_iload_n iX7_tick_144 rfl rfl ?_
        refine x_iald (k) hM rfl iX7_tick_145 (by first | rfl | simp only [nI_add, pk_mul, nI_1, nL0, nL1, nL2, nL3, nL4, nL10, nL30, nL300, nL401]) (hk5) ?_
        refine am_icmp_lt iX7_tick_146 (fun h2 => ?_) (fun h2 => ?_)
        · rw [if_neg (fun q => absurd q.2 (Int32.not_le.mpr h2))] at e1
          refine am_iinc_2 1 iX7_tick_154 rfl rfl rfl ?_
          refine am_goto iX7_tick_157 ?_
          rw [nI_1, ← e1]
          exact ih (k + 1) (by omega)
        · rw [if_pos ⟨h1, Int32.not_lt.mp h2⟩] at e1
          refine am_aload_n iX7_tick_149 rfl rfl ?_
          refine am_iload_n iX7_tick_150 rfl rfl ?_
          refine am_cV1v iX7_tick_151 cX7_tick_207 mX7_fail hM.1 rfl rfl rfl (x_fail_ok hM hk5) ?_
          refine am_iinc_2 1 iX7_tick_154 rfl rfl rfl ?_
          refine am_goto iX7_tick_157 ?_
          rw [nI_1, ← e1]
          exact ih (k + 1) (by omega)
  have reps : ∀ d r : Nat, r + d = R → ∀ v3 v4 v5 : Value, am_W sc 85 14 [.ref M, .int (nI (x_tkR Z P N r).1), .int (nI r), v3, v4, v5] [] (xm m M (x_tkR Z P N r).2) (am_R1 (some (.int (nI (x_tkR Z P N R).1))) (xm m M (x_flN (x_tkR Z P N R).2 N))) := by
    intro d
    induction d with
    | zero =>
      intro r hr v3 v4 v5
      have e : r = R := by omega
      subst e
      have hWr := hW1.tkR r (by omega)
      refine am_iload_n iX7_tick_14 rfl rfl ?_
      refine am_aload_n iX7_tick_15 rfl rfl ?_
      refine x_getI hM iX7_tick_16 fX7_tick_118 ?_
      rw [hWr.1.2.1]
      refine am_icmp_ge iX7_tick_19 (fun _ => ?_) (fun hc => absurd (nI_le (Nat.le_refl _) (by omega)) hc)
      refine am_iconst (i := 0) (v := 0) rfl iX7_tick_110 ?_
      refine am_istore_n_2 iX7_tick_111 rfl rfl ?_
      exact fails _ _ hWr _ _ _ N 0 (by omega)
    | succ d ih =>
      intro r hr v3 v4 v5
      have hWr := hW1.tkR r (by omega)
      refine am_iload_n iX7_tick_14 rfl rfl ?_
      refine am_aload_n iX7_tick_15 rfl rfl ?_
      refine x_getI hM iX7_tick_16 fX7_tick_118 ?_
      rw [hWr.1.2.1]
      refine am_icmp_ge iX7_tick_19 (fun hc => absurd hc (fun q => absurd ((nI_leI (by omega) (by omega)).mp q) (by omega))) (fun _ => ?_)
      obtain ⟨p, hp, hpt, hp2⟩ := x_ix_ex (hWr.2.2.2.2.2.1 r (by omega)).1
      refine am_iconst (i := 0) (v := 0) rfl iX7_tick_22 ?_
      refine am_istore_n_3 iX7_tick_23 rfl rfl ?_
      refine am_iconst (i := 0) (v := 0) rfl iX7_tick_24 ?_
      refine am_istore_4 iX7_tick_25 rfl rfl ?_
      refine am_aload_n iX7_tick_27 rfl rfl ?_
      refine x_getR 17 hM iX7_tick_28 fX7_tick_59 rfl rfl rfl ?_
      refine am_iload_n iX7_tick_31 rfl rfl ?_
      refine x_iald (r) hM rfl iX7_tick_32 (by first | rfl | simp only [nI_add, pk_mul, nI_1, nL0, nL1, nL2, nL3, nL4, nL10, nL30, nL300, nL401]) ((show r < 4 by omega)) ?_
      rw [hp2]
      refine am_istore_5 iX7_tick_33 rfl rfl ?_
      refine x_run_ok hM (by omega) _ 100 0 0 p _ (by omega) hWr hp (by omega) (by omega) (fun v4 v5 => ?_)
      refine am_iload_n iX7_tick_100 rfl rfl ?_
      refine am_iload_n iX7_tick_101 rfl rfl ?_
      refine am_iadd iX7_tick_102 ?_
      refine am_istore_n_1 iX7_tick_103 rfl rfl ?_
      refine am_iinc_2 1 iX7_tick_104 rfl rfl rfl ?_
      refine am_goto iX7_tick_107 ?_
      rw [nI_add, nI_1]
      have e1 : x_tkR Z P N (r + 1) = ((x_tkR Z P N r).1 + (x_run P N r 100 0 0 p (x_tkR Z P N r).2).1, (x_run P N r 100 0 0 p (x_tkR Z P N r).2).2) := by
        show ((x_tkR Z P N r).1 + (x_run P N r 100 0 0 (nt ((x_tkR Z P N r).2.1 17 r)) (x_tkR Z P N r).2).1, (x_run P N r 100 0 0 (nt ((x_tkR Z P N r).2.1 17 r)) (x_tkR Z P N r).2).2) = _
        rw [hpt]
      have := ih (r + 1) (by omega) (.int (nI (x_run P N r 100 0 0 p (x_tkR Z P N r).2).1)) (.int v4) (.int v5)
      rw [e1] at this
      exact this
  exact reps R 0 (by omega) _ _ _
def x_tksN (X : ms_X) (P R N : Nat) : Nat → Int32 × ms_X
  | 0 => (0, X)
  | k + 1 => ((x_tksN X P R N k).1 + (x_tick (x_tksN X P R N k).2 P R N).1, (x_tick (x_tksN X P R N k).2 P R N).2)
theorem x_Wf.tksN (h : x_Wf X P R N) : ∀ k, x_Wf (x_tksN X P R N k).2 P R N
  | 0 => h
  | k + 1 => (h.tksN k).tick
theorem x_tksN_th (X : ms_X) (P R N : Nat) : ∀ k, (x_tksN X P R N k).2.1 0 2 = X.1 0 2
  | 0 => rfl
  | k + 1 => (x_tick_th _ P R N).trans (x_tksN_th X P R N k)
def x_ticks (X : ms_X) (P R N : Nat) (n : Int32) : Int32 × ms_X := if x_rg n 0 100 = true then x_tksN (x_th X 0) P R N (nt n) else (0, x_th X 1)
set_option maxHeartbeats 1000000 in
theorem x_ticks_ok (hM : LM m M) (hW : x_Wf X P R N) (n : Int32) : am_W sc 87 0 [.ref M, .int n, .retAddr 1, .retAddr 1] [] (xm m M X) (am_R1 (some (.int (x_ticks X P R N n).1)) (xm m M (x_ticks X P R N n).2)) := by
  unfold x_ticks
  refine am_aload_n iX7_ticks_0 rfl rfl ?_
  refine am_iload_n iX7_ticks_1 rfl rfl ?_
  refine am_i2l iX7_ticks_2 ?_
  refine am_lconst (i := 0) (v := 0) rfl iX7_ticks_3 ?_
  refine am_ldc2 (v := 100) (wd_890) iX7_ticks_4 ?_
  refine am_cS3r iX7_ticks_7 cX7_ticks_148 mX7_in rfl rfl rfl (x_in _ _ _) ?_
  rw [x_rgL]
  show am_W _ _ _ _ (.int (x_b (x_rg n 0 100)) :: _) _ _
  cases hn : x_rg n 0 100
  · refine am_if_eq iX7_ticks_10 (fun _ => ?_) (fun hc => absurd (by decide) hc)
    refine am_iconst (i := 1) (v := 1) rfl iX7_ticks_17 ?_
    refine x_putI hM iX7_ticks_18 fX7_ticks_121 rfl rfl ?_
    refine am_iconst (i := 0) (v := 0) rfl iX7_ticks_21 ?_
    refine am_istore_n_2 iX7_ticks_22 rfl rfl ?_
    refine am_iconst (i := 0) (v := 0) rfl iX7_ticks_23 ?_
    refine am_istore_n_3 iX7_ticks_24 rfl rfl ?_
    refine am_iload_n iX7_ticks_25 rfl rfl ?_
    refine am_iload_n iX7_ticks_26 rfl rfl ?_
    refine am_icmp_ge iX7_ticks_27 (fun h1 => ?_) (fun h1 => ?_)
    · refine am_iload_n iX7_ticks_50 rfl rfl ?_
      exact am_iret iX7_ticks_51 rfl (⟨rfl, rfl⟩)
    · refine am_aload_n iX7_ticks_30 rfl rfl ?_
      refine x_getI hM iX7_ticks_31 fX7_ticks_121 ?_
      rw [xU_s]
      refine am_if_ne iX7_ticks_34 (fun _ => ?_) (fun hc => absurd hc (by decide))
      refine am_iload_n iX7_ticks_50 rfl rfl ?_
      exact am_iret iX7_ticks_51 rfl (⟨rfl, rfl⟩)
  · obtain ⟨j, hj, hjt, rfl⟩ := x_rg_ex 101 hn (by omega)
    rw [hjt, if_pos rfl]
    refine am_if_eq iX7_ticks_10 (fun hc => absurd hc (by decide)) (fun _ => ?_)
    refine am_iconst (i := 0) (v := 0) rfl iX7_ticks_13 ?_
    refine am_goto iX7_ticks_14 ?_
    refine x_putI hM iX7_ticks_18 fX7_ticks_121 rfl rfl ?_
    refine am_iconst (i := 0) (v := 0) rfl iX7_ticks_21 ?_
    refine am_istore_n_2 iX7_ticks_22 rfl rfl ?_
    refine am_iconst (i := 0) (v := 0) rfl iX7_ticks_23 ?_
    refine am_istore_n_3 iX7_ticks_24 rfl rfl ?_
    have key : ∀ d k : Nat, k + d = j → am_W sc 87 25 [.ref M, .int (nI j), .int (x_tksN (x_th X 0) P R N k).1, .int (nI k)] [] (xm m M (x_tksN (x_th X 0) P R N k).2) (am_R1 (some (.int (x_tksN (x_th X 0) P R N j).1)) (xm m M (x_tksN (x_th X 0) P R N j).2)) := by
      intro d
      induction d with
      | zero =>
        intro k hk
        have e : k = j := by omega
        subst e
        refine am_iload_n iX7_ticks_25 rfl rfl ?_
        refine am_iload_n iX7_ticks_26 rfl rfl ?_
        refine am_icmp_ge iX7_ticks_27 (fun _ => ?_) (fun hc => absurd (nI_le (Nat.le_refl _) (by omega)) hc)
        refine am_iload_n iX7_ticks_50 rfl rfl ?_
        exact am_iret iX7_ticks_51 rfl (⟨rfl, rfl⟩)
      | succ d ih =>
        intro k hk
        refine am_iload_n iX7_ticks_25 rfl rfl ?_
        refine am_iload_n iX7_ticks_26 rfl rfl ?_
        refine am_icmp_ge iX7_ticks_27 (fun hc => absurd hc (fun q => absurd ((nI_leI (by omega) (by omega)).mp q) (by omega))) (fun _ => ?_)
        refine am_aload_n iX7_ticks_30 rfl rfl ?_
        refine x_getI hM iX7_ticks_31 fX7_ticks_121 ?_
        rw [x_tksN_th, show (x_th X 0).1 0 2 = 0 from xU_s _ _ _ _]
        refine am_if_ne iX7_ticks_34 (fun hc => absurd (by decide) hc) (fun _ => ?_)
        refine am_iload_n iX7_ticks_37 rfl rfl ?_
        refine am_aload_n iX7_ticks_38 rfl rfl ?_
        refine am_cV0r iX7_ticks_39 cX7_ticks_212 mX7_tick hM.1 rfl rfl rfl (x_tick_ok hM ((hW.th 0).tksN k)) ?_
        refine am_iadd iX7_ticks_42 ?_
        refine am_istore_n_2 iX7_ticks_43 rfl rfl ?_
        refine am_iinc_3 1 iX7_ticks_44 rfl rfl rfl ?_
        refine am_goto iX7_ticks_47 ?_
        rw [nI_1]
        exact ih (k + 1) (by omega)
    exact key j 0 (by omega)
def x_lkR (X : ms_X) (P N : Nat) : Nat → ms_X
  | 0 => X
  | r + 1 => x_lookN (x_lkR X P N r) P r N
theorem x_Wf.lkR (h : x_Wf X P R N) : ∀ r, x_Wf (x_lkR X P N r) P R N
  | 0 => h
  | r + 1 => (h.lkR r).look r N
theorem x_Wf.modes (h : x_Wf X P R N) (s : Nat) (v : Int32) : x_Wf (xU X 19 s v) P R N := h.cg (fun j _ _ => xU_o _ _ (by decide)) (fun o j ho => xU_o _ _ (x_ws_ne ho).2.2.2.2.2.2.2.2.2.2.2.2.1)
def x_mode (X : ms_X) (P R N : Nat) (s v : Int32) : Int32 × ms_X := if x_rg s 0 7 = false then (0, x_th X 1) else if x_rg v 0 15 = false then (0, x_th X 2) else
  (X.1 19 (nt s), if X.1 19 (nt s) = v then xU (x_th X 0) 19 (nt s) v else x_lkR (xU (x_th X 0) 19 (nt s) v) P N R)
set_option maxHeartbeats 1000000 in
theorem x_mode_ok (hM : LM m M) (hW : x_Wf X P R N) (s v : Int32) : am_W sc 77 0 [.ref M, .int s, .int v, .retAddr 1, .retAddr 1] [] (xm m M X) (am_R1 (some (.int (x_mode X P R N s v).1)) (xm m M (x_mode X P R N s v).2)) := by
  have hR4 := hW.1.2.2.2.2.2
  unfold x_mode
  refine am_aload_n iX7_mode_0 rfl rfl ?_
  refine am_iload_n iX7_mode_1 rfl rfl ?_
  refine am_cS1r iX7_mode_2 cX7_mode_152 mX7_isSession rfl rfl rfl (x_isSession _) ?_
  cases hs : x_rg s 0 7
  · refine am_if_ne iX7_mode_5 (fun hc => absurd (by decide) hc) (fun _ => ?_)
    refine am_iconst (i := 1) (v := 1) rfl iX7_mode_8 ?_
    refine am_goto iX7_mode_9 ?_
    refine x_putI hM iX7_mode_29 fX7_mode_121 rfl rfl ?_
    refine am_aload_n iX7_mode_32 rfl rfl ?_
    refine x_getI hM iX7_mode_33 fX7_mode_121 ?_
    rw [xU_s]
    refine am_if_le iX7_mode_36 (fun hc => absurd hc (by decide)) (fun _ => ?_)
    refine am_iconst (i := 0) (v := 0) rfl iX7_mode_39 ?_
    exact am_iret iX7_mode_40 rfl (⟨rfl, rfl⟩)
  · refine am_if_ne iX7_mode_5 (fun _ => ?_) (fun hc => absurd hc (by decide))
    obtain ⟨n, hn, hnt, rfl⟩ := x_rg_ex 8 hs (by omega)
    rw [hnt]
    refine am_iload_n iX7_mode_12 rfl rfl ?_
    refine am_i2l iX7_mode_13 ?_
    refine am_lconst (i := 0) (v := 0) rfl iX7_mode_14 ?_
    refine am_ldc2 (v := 15) (wd_807) iX7_mode_15 ?_
    refine am_cS3r iX7_mode_18 cX7_mode_148 mX7_in rfl rfl rfl (x_in _ _ _) ?_
    rw [x_rgL]
    show am_W _ _ _ _ (.int (x_b (x_rg v 0 15)) :: _) _ _
    cases hv : x_rg v 0 15
    · refine am_if_ne iX7_mode_21 (fun hc => absurd (by decide) hc) (fun _ => ?_)
      refine am_iconst (i := 2) (v := 2) rfl iX7_mode_24 ?_
      refine am_goto iX7_mode_25 ?_
      refine x_putI hM iX7_mode_29 fX7_mode_121 rfl rfl ?_
      refine am_aload_n iX7_mode_32 rfl rfl ?_
      refine x_getI hM iX7_mode_33 fX7_mode_121 ?_
      rw [xU_s]
      refine am_if_le iX7_mode_36 (fun hc => absurd hc (by decide)) (fun _ => ?_)
      refine am_iconst (i := 0) (v := 0) rfl iX7_mode_39 ?_
      exact am_iret iX7_mode_40 rfl (⟨rfl, rfl⟩)
    · refine am_if_ne iX7_mode_21 (fun _ => ?_) (fun hc => absurd hc (by decide))
      rw [if_neg (by decide), if_neg (by decide)]
      refine am_iconst (i := 0) (v := 0) rfl iX7_mode_28 ?_
      refine x_putI hM iX7_mode_29 fX7_mode_121 rfl rfl ?_
      refine am_aload_n iX7_mode_32 rfl rfl ?_
      refine x_getI hM iX7_mode_33 fX7_mode_121 ?_
      rw [xU_s]
      refine am_if_le iX7_mode_36 (fun _ => ?_) (fun hc => absurd (by decide) hc)
      refine am_aload_n iX7_mode_41 rfl rfl ?_
      refine x_getR 19 hM iX7_mode_42 fX7_mode_66 rfl rfl rfl ?_
      refine am_iload_n iX7_mode_45 rfl rfl ?_
      refine x_iald (n) hM rfl iX7_mode_46 (by first | rfl | simp only [nI_add, pk_mul, nI_1, nL0, nL1, nL2, nL3, nL4, nL10, nL30, nL300, nL401]) (hn) ?_
      refine am_istore_n_3 iX7_mode_47 rfl rfl ?_
      refine am_aload_n iX7_mode_48 rfl rfl ?_
      refine x_getR 19 hM iX7_mode_49 fX7_mode_66 rfl rfl rfl ?_
      refine am_iload_n iX7_mode_52 rfl rfl ?_
      refine am_iload_n iX7_mode_53 rfl rfl ?_
      refine x_iast (n) hM rfl iX7_mode_54 (by first | rfl | simp only [nI_add, pk_mul, nI_1, nL0, nL1, nL2, nL3, nL4, nL10, nL30, nL300, nL401]) (hn) ?_
      refine am_iload_n iX7_mode_55 rfl rfl ?_
      refine am_iload_n iX7_mode_56 rfl rfl ?_
      rw [xU_o _ _ (by decide)]
      refine am_icmp_eq iX7_mode_57 (fun h1 => ?_) (fun h1 => ?_)
      · rw [if_pos h1]
        refine am_iload_n iX7_mode_84 rfl rfl ?_
        exact am_iret iX7_mode_85 rfl (⟨rfl, rfl⟩)
      · rw [if_neg h1]
        refine am_iconst (i := 0) (v := 0) rfl iX7_mode_60 ?_
        refine am_istore_4 iX7_mode_61 rfl rfl ?_
        have hW1 := (hW.th 0).modes n v
        have key : ∀ d r : Nat, r + d = R → am_W sc 77 63 [.ref M, .int (nI n), .int v, .int (X.1 19 n), .int (nI r)] [] (xm m M (x_lkR (xU (x_th X 0) 19 n v) P N r)) (am_R1 (some (.int (X.1 19 n))) (xm m M (x_lkR (xU (x_th X 0) 19 n v) P N R))) := by
          intro d
          induction d with
          | zero =>
            intro r hr
            have e : r = R := by omega
            subst e
            refine am_iload iX7_mode_63 rfl ?_
            refine am_aload_n iX7_mode_65 rfl rfl ?_
            refine x_getI hM iX7_mode_66 fX7_mode_118 ?_
            rw [(hW1.lkR r).1.2.1]
            refine am_icmp_ge iX7_mode_69 (fun _ => ?_) (fun hc => absurd (nI_le (Nat.le_refl _) (by omega)) hc)
            refine am_iload_n iX7_mode_84 rfl rfl ?_
            exact am_iret iX7_mode_85 rfl (⟨rfl, rfl⟩)
          | succ d ih =>
            intro r hr
            have hWr := hW1.lkR r
            refine am_iload iX7_mode_63 rfl ?_
            refine am_aload_n iX7_mode_65 rfl rfl ?_
            refine x_getI hM iX7_mode_66 fX7_mode_118 ?_
            rw [hWr.1.2.1]
            refine am_icmp_ge iX7_mode_69 (fun hc => absurd hc (fun q => absurd ((nI_leI (by omega) (by omega)).mp q) (by omega))) (fun _ => ?_)
            refine am_aload_n iX7_mode_72 rfl rfl ?_
            refine am_iload iX7_mode_73 rfl ?_
            refine am_cV1v iX7_mode_75 cX7_mode_158 mX7_look hM.1 rfl rfl rfl (x_look_ok hM hWr.1 hWr.2.1 (show r < 4 by omega)) ?_
            refine am_iinc_4 1 iX7_mode_78 rfl rfl rfl ?_
            refine am_goto iX7_mode_81 ?_
            rw [nI_1]
            exact ih (r + 1) (by omega)
        exact key R 0 (by omega)
end
