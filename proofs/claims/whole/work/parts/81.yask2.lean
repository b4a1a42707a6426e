/-! the class: ask, as a public call -/
section
variable {sc : Nat × (Nat → Int32)} {m m2 : am_Mem} {G : cg_G} {X E : ms_X} {P R N T : Nat}
theorem nI_m1 {j : Nat} (h : j < 2 ^ 31) : ¬ nI j = -1 := by
  intro q
  have := congrArg Int32.toInt q
  rw [nI_toInt h] at this
  have e : (-1 : Int32).toInt = -1 := by decide
  rw [e] at this
  omega
theorem x_fail_o (X : ms_X) (k : Nat) {o j : Nat} (h1 : o ≠ 23) (h2 : o ≠ 34) : (x_fail X k).1 o j = X.1 o j := by
  unfold x_fail
  rw [xU_o _ _ h2, xU_o _ _ h1]
theorem x_fail_st (X : ms_X) (k j : Nat) : (x_fail X k).1 23 j = if j = k then 2 else X.1 23 j := by
  unfold x_fail
  rw [xU_o _ _ (by decide)]
  split
  · rename_i e; subst e; exact xU_s _ _ _ _
  · rename_i e; exact xU_j _ _ e
set_option maxHeartbeats 2000000 in
theorem y_ask_code {M1 : am_Mem} {A F : ms_X} {c s h r : Nat} {t : Int64} {b p kd q : Int32} {Q : am_Out → am_Mem → Prop} (hLC : LC m2 G P R) (h17 : cx G 17 N) (hcc : ca G 17 N = c) (hN5 : N < 500) (hs : s < 8) (rdA : y_rd A F N s P) (a20 : A.1 20 s = nI h) (hh4 : h < R) (aN : A.1 0 26 = nI N) (hw0 : F.1 0 0 = nI (x_wtN A 0 N)) (h40 : x_wtN A 0 N ≤ 40) (hE : ∀ r p, r < R → p < P → x_ix (A.1 1 p) 401 ∧ x_ix (A.1 15 (3 * r + p)) 401) (hS : ∀ r, r < R → y_S A r) (hz : ∀ r j, r < R → P ≤ j → j < 3 → A.1 22 (3 * s + j) = 0 ∧ A.1 15 (3 * r + j) = 0)
    (hr : x_fs A P R h N R 0 = r) (hM1 : c_sR m2 (ca G 23 0) (fun i => if i = N then c else am_R m2 (ca G 23 0) i) = M1) (hrm : am_n m2 + 1 ≤ am_CM ∧ am_u m2 + 6 ≤ am_SM)
    (q1 : r < R → Q (.inl (some (.int (nI N)))) (cm M1 G (x_ans (xU (xU A 0 26 (nI (N + 1))) 23 N 0) P ((h + r) % R) N) (xU F 0 1 (F.1 0 1 + 1))))
    (q2 : ¬ r < R → p = 0 → Q (.inl (some (.int (nI N)))) (cm M1 G (x_fail (xU (xU A 0 26 (nI (N + 1))) 23 N 0) N) (xU F 0 2 (F.1 0 2 + 1))))
    (q3 : ¬ r < R → ¬ p = 0 → ¬ x_wtN A 0 N = 40 → Q (.inl (some (.int (nI N)))) (cm (c_sR M1 (ca G 24 0) (fun i => if i = x_wtN A 0 N then c else am_R M1 (ca G 24 0) i)) G (xU (xU A 0 26 (nI (N + 1))) 23 N 0) (xU F 0 0 (nI (x_wtN A 0 N + 1)))))
    (q4 : ¬ r < R → ¬ p = 0 → x_wtN A 0 N = 40 → Q (.inr (am_n m2 + 1)) (am_new (cm m2 G (xU A 23 N 0) F) 10 0 6)) :
    am_W sc 34 81 [.ref (ca G 1 0), .int (nI s), .long t, .retAddr 1, .int b, .int p, .int kd, .int q, .ref (ca G 17 N), .retAddr 1, .retAddr 1] [] (cm m2 G (xU A 23 N 0) F) Q := by
  have hL := hLC
  have h1 := hL.2.1
  have hP3 := hL.2.2.2
  have x23 := hL.e23
  have x24 := hL.w
  have rdB : ∀ Y : ms_X, (∀ o j, o ≠ 0 → o ≠ 23 → Y.1 o j = A.1 o j) → y_rd Y F N s P := fun Y hY => rdA.cg (fun o j ho => hY o j (by omega) (by omega)) rfl
  have hfs : x_fs (xU A 23 N 0) P R h N R 0 = r := (x_fs_cg (fun o j _ ho => xU_o _ _ ho) _ _ _ _).trans hr
  have hBr : xU (xU A 23 N 0) 0 26 (nI (N + 1)) = xU (xU A 0 26 (nI (N + 1))) 23 N 0 := xU_comm _ _ _ (by decide)
  have hAN : (xU A 23 N 0).1 0 26 = nI N := by rw [xU_o _ _ (by decide)]; exact aN
  refine am_aload_n iX6_ask_81 rfl rfl ?_
  refine am_aload iX6_ask_82 rfl ?_
  refine am_cV1r iX6_ask_84 cX6_ask_154 mX6_firstThatMay (y_K hL (by assumption) rfl rfl) rfl rfl rfl (y_firstThatMay (X := xU A 23 N 0) hL h17 (rdB _ (fun o j _ ho => xU_o _ _ ho)) a20 hh4 hE) ?_
  unfold y_fst
  rw [hfs]
  have good : ∀ (rep w : Int32), am_W sc 34 152 [.ref (ca G 1 0), .int (nI s), .long t, .retAddr 1, .int b, .int p, .int kd, .int q, .ref (ca G 17 N), .int rep, .int w] [] (cm M1 G (xU (xU A 0 26 (nI (N + 1))) 23 N 0) F) Q → am_W sc 34 131 [.ref (ca G 1 0), .int (nI s), .long t, .retAddr 1, .int b, .int p, .int kd, .int q, .ref (ca G 17 N), .int rep, .int w] [] (cm m2 G (xU A 23 N 0) F) Q := by
    intro rep w hQ
    refine am_aload_n iX6_ask_131 rfl rfl ?_
    refine y_getR hL (by assumption) iX6_ask_132 fX6_ask_32 rfl rfl rfl (fun _ => ?_)
    refine am_aload_n iX6_ask_135 rfl rfl ?_
    refine y_getI (o := 0) hL (by assumption) iX6_ask_136 fX6_ask_146 rfl rfl rfl rfl ?_
    rw [hAN]
    refine am_aload iX6_ask_139 rfl ?_
    refine am_aast (ci := 2) iX6_ask_141 (y_K hL x23 rfl rfl) (by decide) (Or.inr (y_K hL h17 rfl rfl)) (by rw [y_L hL x23 rfl]; exact vp_in_nI (N := 500) (by omega) (by decide)) ?_
    rw [nI_clamp (by omega)]
    have e1 : am_setR (cm m2 G (xU A 23 N 0) F) (ca G 23 0) N (ca G 17 N) = cm M1 G (xU A 23 N 0) F := by
      have := c_sR_set (m := m2) (a := ca G 23 0) (j := N) (v := c) (g := am_R m2 (ca G 23 0)) (G := G) (X := xU A 23 N 0) (E := F)
      rw [c_sR_id, hM1] at this
      rw [hcc]
      exact this
    rw [e1]
    have hL : LC M1 G P R := by rw [← hM1]; exact hLC.sRg x23 (fun _ => rfl) _
    refine am_aload_n iX6_ask_142 rfl rfl ?_
    refine am_dup iX6_ask_143 rfl ?_
    refine y_getI (o := 0) hL (by assumption) iX6_ask_144 fX6_ask_146 rfl rfl rfl rfl ?_
    rw [hAN]
    refine am_iconst (i := 1) (v := 1) rfl iX6_ask_147 ?_
    refine am_iadd iX6_ask_148 ?_
    rw [nI_1]
    refine y_putI (o := 0) hL (by assumption) iX6_ask_149 fX6_ask_146 rfl rfl rfl rfl rfl rfl ?_
    rw [hBr]
    exact hQ
  have hL1 : LC M1 G P R := by rw [← hM1]; exact hLC.sRg x23 (fun _ => rfl) _
  have hB26 : (xU (xU A 0 26 (nI (N + 1))) 23 N 0).1 0 26 = nI (N + 1) := (xU_o _ _ (by decide)).trans (xU_s _ _ _ _)
  have hBo : ∀ o j, o ≠ 0 → o ≠ 23 → (xU (xU A 0 26 (nI (N + 1))) 23 N 0).1 o j = A.1 o j := fun o j h0 h23 => (xU_o _ _ h23).trans (xU_o _ _ h0)
  generalize xU (xU A 0 26 (nI (N + 1))) 23 N 0 = B at q1 q2 q3 good hB26 hBo
  by_cases c1 : r < R
  · have hmod : (h + r) % R < R := Nat.mod_lt _ (by omega)
    have hm1 := nI_m1 (j := (h + r) % R) (by omega)
    have q1 := q1 c1
    rw [if_pos c1]
    refine am_istore_9 iX6_ask_87 rfl rfl ?_
    refine am_iload iX6_ask_89 rfl ?_
    refine am_iconst (i := -1) (v := -1) rfl iX6_ask_91 ?_
    refine am_icmp_ne iX6_ask_92 (fun _ => ?_) (fun hc => absurd hc (hm1))
    refine am_iconst (i := 0) (v := 0) rfl iX6_ask_104 ?_
    refine am_istore_10 iX6_ask_105 rfl rfl ?_
    refine am_iload iX6_ask_107 rfl ?_
    refine am_if_eq iX6_ask_109 (fun _ => ?_) (fun hc => absurd (rfl) hc)
    refine good _ _ ?_
    have hL := hL1
    refine am_iload iX6_ask_152 rfl ?_
    refine am_if_eq iX6_ask_154 (fun _ => ?_) (fun hc => absurd (rfl) hc)
    refine am_iload iX6_ask_181 rfl ?_
    refine am_iconst (i := -1) (v := -1) rfl iX6_ask_183 ?_
    refine am_icmp_ne iX6_ask_184 (fun _ => ?_) (fun hc => absurd hc (hm1))
    refine am_aload_n iX6_ask_196 rfl rfl ?_
    refine am_aload iX6_ask_197 rfl ?_
    refine am_iload iX6_ask_199 rfl ?_
    have hSB : y_S B ((h + r) % R) := fun i hi => by rw [hBo 10 _ (by decide) (by decide)]; exact hS _ hmod i hi
    refine am_cV2v iX6_ask_201 cX6_ask_167 mX6_answer (y_K hL (by assumption) rfl rfl) rfl rfl rfl (y_answer hL hmod h17 (rdB B hBo) hSB (fun j j1 j2 => by rw [hBo 22 _ (by decide) (by decide), hBo 15 _ (by decide) (by decide)]; exact hz _ j hmod j1 j2)) ?_
    refine am_aload_n iX6_ask_204 rfl rfl ?_
    refine y_getI (o := 0) hL (by assumption) iX6_ask_205 fX6_ask_146 rfl rfl rfl rfl ?_
    rw [x_ans_o _ _ _ _ (by decide) (by decide) (by decide) (by decide), hB26]
    refine am_iconst (i := 1) (v := 1) rfl iX6_ask_208 ?_
    refine am_isub iX6_ask_209 ?_
    rw [nL1, pk_sub (by omega)]
    exact am_iret iX6_ask_210 rfl q1
  · rw [if_neg c1]
    by_cases c2 : p = 0
    · have q2 := q2 c1 c2
      refine am_istore_9 iX6_ask_87 rfl rfl ?_
      refine am_iload iX6_ask_89 rfl ?_
      refine am_iconst (i := -1) (v := -1) rfl iX6_ask_91 ?_
      refine am_icmp_ne iX6_ask_92 (fun hc => absurd (rfl) hc) (fun _ => ?_)
      refine am_iload iX6_ask_95 rfl ?_
      refine am_if_eq iX6_ask_97 (fun _ => ?_) (fun hc => absurd (c2) hc)
      refine am_iconst (i := 0) (v := 0) rfl iX6_ask_104 ?_
      refine am_istore_10 iX6_ask_105 rfl rfl ?_
      refine am_iload iX6_ask_107 rfl ?_
      refine am_if_eq iX6_ask_109 (fun _ => ?_) (fun hc => absurd (rfl) hc)
      refine good _ _ ?_
      have hL := hL1
      refine am_iload iX6_ask_152 rfl ?_
      refine am_if_eq iX6_ask_154 (fun _ => ?_) (fun hc => absurd (rfl) hc)
      refine am_iload iX6_ask_181 rfl ?_
      refine am_iconst (i := -1) (v := -1) rfl iX6_ask_183 ?_
      refine am_icmp_ne iX6_ask_184 (fun hc => absurd (rfl) hc) (fun _ => ?_)
      refine am_aload_n iX6_ask_187 rfl rfl ?_
      refine am_aload iX6_ask_188 rfl ?_
      refine am_cV1v iX6_ask_190 cX6_ask_163 mX6_fail (y_K hL (by assumption) rfl rfl) rfl rfl rfl (y_fail hL h17) ?_
      refine am_goto iX6_ask_193 ?_
      refine am_aload_n iX6_ask_204 rfl rfl ?_
      refine y_getI (o := 0) hL (by assumption) iX6_ask_205 fX6_ask_146 rfl rfl rfl rfl ?_
      rw [x_fail_o _ _ (by decide) (by decide), hB26]
      refine am_iconst (i := 1) (v := 1) rfl iX6_ask_208 ?_
      refine am_isub iX6_ask_209 ?_
      rw [nL1, pk_sub (by omega)]
      exact am_iret iX6_ask_210 rfl q2
    · refine am_istore_9 iX6_ask_87 rfl rfl ?_
      refine am_iload iX6_ask_89 rfl ?_
      refine am_iconst (i := -1) (v := -1) rfl iX6_ask_91 ?_
      refine am_icmp_ne iX6_ask_92 (fun hc => absurd (rfl) hc) (fun _ => ?_)
      refine am_iload iX6_ask_95 rfl ?_
      refine am_if_eq iX6_ask_97 (fun hc => absurd hc (c2)) (fun _ => ?_)
      refine am_iconst (i := 1) (v := 1) rfl iX6_ask_100 ?_
      refine am_goto iX6_ask_101 ?_
      refine am_istore_10 iX6_ask_105 rfl rfl ?_
      refine am_iload iX6_ask_107 rfl ?_
      refine am_if_eq iX6_ask_109 (fun hc => absurd hc (by decide)) (fun _ => ?_)
      refine am_aload_n iX6_ask_112 rfl rfl ?_
      refine y_getE (o := 0) hL (by assumption) iX6_ask_113 fX6_ask_158 rfl rfl rfl ?_
      rw [hw0]
      refine am_bipush (i := 40) (v := 40) rfl iX6_ask_116 ?_
      by_cases c3 : x_wtN A 0 N = 40
      · have q4 := q4 c1 c2 c3
        refine am_icmp_lt iX6_ask_118 (fun hc => absurd hc (fun z => absurd ((nI_ltI (a := x_wtN A 0 N) (b := 40) (by omega) (by omega)).mp z) (by omega))) (fun _ => ?_)
        refine am_throw tX6_ask_121 rfl iX6_ask_121 iX6_ask_124 iX6_ask_125 iX6_ask_127 iX6_ask_130 (Nat.le_of_ble_eq_true rfl) (Nat.le_of_ble_eq_true rfl) ?_ ?_ ?_
        · exact hrm.1
        · exact hrm.2
        · exact q4
      · have q3 := q3 c1 c2 c3
        refine am_icmp_lt iX6_ask_118 (fun _ => ?_) (fun hc => absurd (nI_lt (a := x_wtN A 0 N) (b := 40) (by omega) (by omega)) hc)
        refine good _ _ ?_
        have hL := hL1
        refine am_iload iX6_ask_152 rfl ?_
        refine am_if_eq iX6_ask_154 (fun hc => absurd hc (by decide)) (fun _ => ?_)
        refine am_aload_n iX6_ask_157 rfl rfl ?_
        refine y_getR hL (by assumption) iX6_ask_158 fX6_ask_36 rfl rfl rfl (fun _ => ?_)
        refine am_aload_n iX6_ask_161 rfl rfl ?_
        refine y_getE (o := 0) hL (by assumption) iX6_ask_162 fX6_ask_158 rfl rfl rfl ?_
        rw [hw0]
        refine am_aload iX6_ask_165 rfl ?_
        refine y_wast (x_wtN A 0 N) hL h17 iX6_ask_167 rfl (by omega) ?_
        have e1 : am_setR (cm M1 G B F) (ca G 24 0) (x_wtN A 0 N) (ca G 17 N) = cm (c_sR M1 (ca G 24 0) (fun i => if i = x_wtN A 0 N then c else am_R M1 (ca G 24 0) i)) G B F := by
          have := c_sR_set (m := M1) (a := ca G 24 0) (j := x_wtN A 0 N) (v := c) (g := am_R M1 (ca G 24 0)) (G := G) (X := B) (E := F)
          rw [c_sR_id] at this
          rw [hcc]
          exact this
        rw [e1]
        have hL := hL1.sRg x24 (fun _ => rfl) (fun i => if i = x_wtN A 0 N then c else am_R M1 (ca G 24 0) i)
        refine am_aload_n iX6_ask_168 rfl rfl ?_
        refine am_dup iX6_ask_169 rfl ?_
        refine y_getE (o := 0) hL (by assumption) iX6_ask_170 fX6_ask_158 rfl rfl rfl ?_
        rw [hw0]
        refine am_iconst (i := 1) (v := 1) rfl iX6_ask_173 ?_
        refine am_iadd iX6_ask_174 ?_
        rw [nI_1]
        refine y_putE (o := 0) hL (by assumption) iX6_ask_175 fX6_ask_158 rfl rfl rfl rfl rfl ?_
        refine am_goto iX6_ask_178 ?_
        refine am_aload_n iX6_ask_204 rfl rfl ?_
        refine y_getI (o := 0) hL (by assumption) iX6_ask_205 fX6_ask_146 rfl rfl rfl rfl ?_
        rw [hB26]
        refine am_iconst (i := 1) (v := 1) rfl iX6_ask_208 ?_
        refine am_isub iX6_ask_209 ?_
        rw [nL1, pk_sub (by omega)]
        exact am_iret iX6_ask_210 rfl q3
set_option maxHeartbeats 4000000 in
theorem y_ask_end {c s h : Nat} {t : Int64} {b p kd q dl : Int32} (hI : INV m G X E P R N T) (hN5 : N < 500) (hrm : am_n m2 + 1 ≤ am_CM ∧ am_u m2 + 6 ≤ am_SM) (hu : c_up m m2) (hs : s < 8) (hh : X.1 20 s = nI h) (hh4 : h < R) (hb : x_rg b (-1) 400 = true) (hp : x_rg p 0 1000 = true) (hq : x_isQ P kd q = true) (hdl : dl = X.1 0 3 + p)
    (hc : am_n m < c) (hc2 : c ≤ am_n m2) (kc : am_K m2 c = 2) (lc : am_L m2 c = 0) (vI : am_I m2 c 0 = nI s ∧ am_I m2 c 1 = b ∧ am_I m2 c 2 = dl ∧ am_I m2 c 3 = kd ∧ am_I m2 c 4 = q ∧ am_I m2 c 6 = 0 ∧ am_I m2 c 7 = -1 ∧ am_I m2 c 8 = -1) (vJ : am_J m2 c 5 = t ∧ am_J m2 c 9 = 0 ∧ am_J m2 c 10 = 0) (hT : T + 100 ≤ 1000000) (z2 : X.1 0 2 = 0) (hm2 : am_n m2 ≤ am_n m + 1) (hm3 : am_u m2 ≤ am_u m + 11) :
    am_W sc 34 81 [.ref (ca G 1 0), .int (nI s), .long t, .retAddr 1, .int b, .int p, .int kd, .int q, .ref c, .retAddr 1, .retAddr 1] [] (cm m2 G X E) (y_Q ((x_ask3 (x_ask0 X N s t b p kd q) P R N s p (x_fs (x_ask0 X N s t b p kd q) P R h N R 0)).2.1 0 2) (kdf ((x_ask3 (x_ask0 X N s t b p kd q) P R N s p (x_fs (x_ask0 X N s t b p kd q) P R h N R 0)).2.1 0 2)) (.int (x_ask3 (x_ask0 X N s t b p kd q) P R N s p (x_fs (x_ask0 X N s t b p kd q) P R h N R 0)).1) (y_POST m G (x_ask3 (x_ask0 X N s t b p kd q) P R N s p (x_fs (x_ask0 X N s t b p kd q) P R h N R 0)).2 P R (T + 100))) := by
  have hL0 := hI.1
  have hP3 := hL0.2.2.2
  have hc0 := hL0.n0 hc
  have f17 : ∀ z, co G z ≠ (17, N) := by
    intro z e
    have := (hI.2.1.2.2 z).1 (by rw [e])
    rw [e] at this
    exact Nat.lt_irrefl _ this
  have hI2 := hI.up hu
  have hIA := hI2.eqN (x_ask0_eq (k := N) (s := s) (t := t) (b := b) (p := p) (kd := kd) (a := q))
  have hLC : LC m2 (c_ad G c 17 N) P R := hI2.1.ad hc0 f17 kc lc (by omega) hc2 (fun j t' n' h => by cases h)
  have back := cm_adR (m := m2) (X := X) (E := E) (p := p) hc0 f17 vI vJ
  have vis := cm_visR (m := m2) (X := X) (E := E) (s := s) (t := t) (b := b) (p := p) (kd := kd) (q := q) f17
  have tr : ∀ {t' n'}, cx G t' n' → t' ≠ 0 → cx (c_ad G c 17 N) t' n' ∧ ca (c_ad G c 17 N) t' n' = ca G t' n' := fun hc h0 => hc.ad hc0 f17 h0
  have x1 := tr hL0.2.1 (by decide)
  have x23 := tr hL0.e23 (by decide)
  have x24 := tr hL0.w (by decide)
  have x17 : cx (c_ad G c 17 N) 17 N ∧ ca (c_ad G c 17 N) 17 N = c := ⟨c_ad_x, c_ad_a⟩
  have xk : ∀ k, k < N → ca (c_ad G c 17 N) 17 k = ca G 17 k := fun k hk => (tr (hI.2.1.1 k hk).2 (by decide)).2
  have hun : ∀ z, (co G z).1 = 0 → z ≤ am_n m → (co (c_ad G c 17 N) z).1 = 0 := by
    intro z hz hzm
    rw [c_ad_o (by omega)]
    exact hz
  have hInv := fun {Y F : ms_X} (hA : IA Y F P R (N + 1) T) (hB : IB Y F P (N + 1)) (h1 : ∀ j, Y.1 1 j = (x_ask0 X N s t b p kd q).1 1 j) (h2 : ∀ j, Y.1 2 j = (x_ask0 X N s t b p kd q).1 2 j) (g24 : Nat → Nat) (hw : y_WT (c_ad G c 17 N) Y (N + 1) g24) => hIA.ask hc0 f17 hLC hA hB h1 h2 g24 hw
  rw [← x23.2, ← x24.2] at hInv
  have n1 : ca (c_ad G c 17 N) 24 0 ≠ ca (c_ad G c 17 N) 23 0 := fun q => by have := (cx_inj x24.1 x23.1 q).1; omega
  obtain ⟨π, hπ, hπt, hπ2⟩ := x_rg_ex 1001 hp (by omega)
  obtain ⟨τ, hτ, hτt, hτ2⟩ := x_ix_ex hI.2.2.1.2.2.2.2.2.2.2.1
  have a24 := x_ask0_24 X N s t b p kd q
  have a29 := x_ask0_29 X N s t b p kd q
  have a30 := x_ask0_30 X N s t b p kd q
  have a26 : (x_ask0 X N s t b p kd q).1 26 N = b := x_ask0_26
  have a27 : (x_ask0 X N s t b p kd q).1 27 N = p := x_ask0_27
  have a28 : (x_ask0 X N s t b p kd q).1 28 N = X.1 0 3 := x_ask0_28
  have a25 : ∀ j, j < 3 → (x_ask0 X N s t b p kd q).1 25 (3 * N + j) = x_pos t (nI j) := fun j hj => by rw [x_ask0_25 hj, if_pos rfl]
  have a0 : ∀ o j, o < 24 → (x_ask0 X N s t b p kd q).1 o j = X.1 o j := (x_ask0_eq (k := N)).1
  have hrdF : ∀ F : ms_X, F.2 1 N = t → y_rd (x_ask0 X N s t b p kd q) F N s P := fun F hF => ⟨hs, a24, fun j hj => by rw [a25 j hj, hF], by rw [a26]; exact hb, by rw [a29, a30]; exact hq⟩
  have hdF : ∀ F : ms_X, F.1 1 N = dl → ∃ u w, (x_ask0 X N s t b p kd q).1 28 N = nI u ∧ (x_ask0 X N s t b p kd q).1 27 N = nI w ∧ w ≤ 1000 ∧ u ≤ nt ((x_ask0 X N s t b p kd q).1 0 3) ∧ F.1 1 N = nI (u + w) := fun F hF => ⟨τ, π, by rw [a28, hτ2], by rw [a27, hπ2], by omega, by rw [a0 0 3 (by decide), hτt]; exact Nat.le_refl _, by rw [hF, hdl, hτ2, hπ2, nI_add]⟩
  have hAmore := fun {Y F : ms_X} (h0 : ∀ j, j ≠ 26 → Y.1 0 j = (x_ask0 X N s t b p kd q).1 0 j) (h26 : Y.1 0 26 = nI (N + 1)) (h1 : ∀ o j, o ≠ 0 → o ≠ 22 → o ≠ 23 → o ≠ 31 → o ≠ 34 → Y.1 o j = (x_ask0 X N s t b p kd q).1 o j) (hF : ∀ k, k < N → F.1 1 k = E.1 1 k ∧ F.2 1 k = E.2 1 k) (hF1 : F.1 1 N = dl) (hF2 : F.2 1 N = t) => hIA.2.2.1.more (Y := Y) (F := F) hN5 h0 h26 h1 hF (by rw [a24, nt_nI (by omega)]; exact hrdF F hF2) (hdF F hF1)
  rw [back]
  have hrR := x_fs_le (x_ask0 X N s t b p kd q) P R h N R 0
  have hth : x_th (x_ask0 X N s t b p kd q) 0 = x_ask0 X N s t b p kd q := xU_id _ (by rw [a0 0 2 (by decide)]; exact z2.symm)
  have a20 : (x_ask0 X N s t b p kd q).1 20 s = nI h := by rw [a0 20 s (by decide)]; exact hh
  have aN : (x_ask0 X N s t b p kd q).1 0 26 = nI N := by rw [a0 0 26 (by decide)]; exact hI.2.2.1.1.2.1.1
  have az2 : (x_ask0 X N s t b p kd q).1 0 2 = 0 := by rw [a0 0 2 (by decide)]; exact z2
  generalize x_ask0 X N s t b p kd q = A at *
  generalize hG : c_ad G c 17 N = G2 at hLC hInv x1 x23 x24 x17 xk hun n1 back ⊢
  generalize hE : xV (xU E 1 N dl) 1 N t = F at back ⊢
  have F0 : ∀ j, F.1 0 j = E.1 0 j := fun j => by rw [← hE]; show (xU E 1 N dl).1 0 j = E.1 0 j; exact xU_o _ _ (by decide)
  have F1 : ∀ k, k < N → F.1 1 k = E.1 1 k ∧ F.2 1 k = E.2 1 k := fun k hk => by rw [← hE]; exact ⟨xU_j _ _ (by omega), xV_j _ _ (by omega)⟩
  have F2 : F.1 1 N = dl := by rw [← hE]; exact xU_s _ _ _ _
  have F3 : F.2 1 N = t := by rw [← hE]; exact xV_s _ _ _ _
  have hW := hIA.2.2.1.1
  obtain ⟨ib1, ib2, ib3, ib4, ib5, ib6, ib7⟩ := hIA.2.2.2.1
  have hwt := hIA.2.2.2.2
  rw [← x1.2, ← x17.2]
  generalize hr : x_fs A P R h N R 0 = r at hrR ⊢
  generalize hM1 : c_sR m2 (ca G2 23 0) (fun i => if i = N then c else am_R m2 (ca G2 23 0) i) = M1 at hInv
  have M1R : ∀ j, am_R M1 (ca G2 24 0) j = am_R m2 (ca G2 24 0) j := fun j => by rw [← hM1]; exact c_sR_Ro n1
  have M1n : am_n M1 = am_n m2 ∧ am_u M1 = am_u m2 := by rw [← hM1]; exact ⟨rfl, rfl⟩
  have frame : ∀ g, c_fr m G (c_sR M1 (ca G2 24 0) g) G2 := by
    intro g
    refine ⟨?_, ?_, ?_, x1.2, fun z hz h0 => ⟨hun z h0 hz, ?_⟩⟩
    · show am_n m ≤ am_n M1
      have := hu.1
      omega
    · show am_n M1 ≤ _
      omega
    · show am_u M1 ≤ _
      omega
    · have d1 := hu.2 z hz
      have nz : ∀ t' n', cx G2 t' n' → t' ≠ 0 → z ≠ ca G2 t' n' := by
        intro t' n' hx h0' e
        have := hun z h0 hz
        rw [e, show co G2 (ca G2 t' n') = (t', n') from hx] at this
        exact h0' this
      rw [← hM1]
      refine ⟨d1.1, d1.2.1, fun j => ⟨(d1.2.2 j).1, (d1.2.2 j).2.1, ?_⟩⟩
      rw [c_sR_Ro (nz 24 0 x24.1 (by decide)), c_sR_Ro (nz 23 0 x23.1 (by decide))]
      exact (d1.2.2 j).2.2
  have frame1 : c_fr m G M1 G2 := by
    have := frame (am_R M1 (ca G2 24 0))
    rw [c_sR_id] at this
    exact this
  have wtN : ∀ Y : ms_X, (∀ k, k < N → Y.1 23 k = A.1 23 k) → ¬ Y.1 23 N = 0 → y_WT G2 Y (N + 1) (am_R M1 (ca G2 24 0)) := by
    intro Y h23 hne k hk hs0
    have kN : k < N := by
      have : k ≠ N := fun e => by subst e; exact hne hs0
      omega
    rw [M1R, wt_cg (X := A) (Y := Y) k (fun j hj => by rw [h23 j (by omega)]), xk k kN, x24.2]
    exact hwt k kN (by rw [← h23 k kN]; exact hs0)
  unfold x_ask3
  rw [hth]
  have hB0 : ∀ j, j ≠ 26 → (xU (xU A 0 26 (nI (N + 1))) 23 N 0).1 0 j = A.1 0 j := fun j hj => (xU_o _ _ (by decide)).trans (xU_j _ _ hj)
  have hB26 : (xU (xU A 0 26 (nI (N + 1))) 23 N 0).1 0 26 = nI (N + 1) := (xU_o _ _ (by decide)).trans (xU_s _ _ _ _)
  have hBo : ∀ o j, o ≠ 0 → o ≠ 23 → (xU (xU A 0 26 (nI (N + 1))) 23 N 0).1 o j = A.1 o j := fun o j h0 h23 => (xU_o _ _ h23).trans (xU_o _ _ h0)
  have hB23 : (xU (xU A 0 26 (nI (N + 1))) 23 N 0).1 23 N = 0 := xU_s _ _ _ _
  have hB23k : ∀ k, k < N → (xU (xU A 0 26 (nI (N + 1))) 23 N 0).1 23 k = A.1 23 k := fun k hk => (xU_j _ _ (by omega)).trans (xU_o _ _ (by decide))
  refine y_ask_code hLC x17.1 x17.2 hN5 hs (hrdF F F3) a20 hh4 aN ((F0 0).trans ib3) ib6 (fun r p hr hp => ⟨hW.2.2.1 p (by omega), (hW.2.2.2.1 r p (by omega) (by omega)).1⟩) (fun r hr => hIA.2.2.1.S (by omega)) (fun r j hr j1 j2 => ⟨ib1 s j hs j1 j2, (hIA.2.2.1.2.2.2.1 j j1 j2).2.1 r (by omega)⟩) hr hM1 hrm (fun c1 => ?_) (fun c1 c2 => ?_) (fun c1 c2 c3 => ?_) (fun c1 c2 c3 => ?_)
  · have c1' : ¬ (r = R ∧ 0 < p ∧ x_wtN A 0 N = 40) := fun z => by omega
    have hmod : (h + r) % R < R := Nat.mod_lt _ (by omega)
    rw [if_neg c1']
    unfold x_ask4
    rw [if_pos c1, hBo 20 s (by decide) (by decide), a20, nt_nI (by omega)]
    generalize xU (xU A 0 26 (nI (N + 1))) 23 N 0 = B at hB0 hB26 hBo hB23 hB23k ⊢
    have hA2 := hAmore (Y := x_ans B P ((h + r) % R) N) (F := xU F 0 1 (F.1 0 1 + 1)) (fun j hj => by rw [x_ans_o _ _ _ _ (by decide) (by decide) (by decide) (by decide)]; exact hB0 j hj) (by rw [x_ans_o _ _ _ _ (by decide) (by decide) (by decide) (by decide)]; exact hB26) (fun o j g0 g1 g2 g3 g4 => by rw [x_ans_o _ _ _ _ g1 g2 g3 g4]; exact hBo o j g0 g2) (fun k hk => ⟨(xU_o _ _ (by decide)).trans (F1 k hk).1, (F1 k hk).2⟩) ((xU_o _ _ (by decide)).trans F2) F3
    have st : ∀ k, k < N → (x_ans B P ((h + r) % R) N).1 23 k = A.1 23 k := fun k hk => by rw [x_ans_st, if_neg (by omega)]; exact hB23k k hk
    have stN : (x_ans B P ((h + r) % R) N).1 23 N = 1 := by rw [x_ans_st, if_pos rfl]
    have hB2 : IB (x_ans B P ((h + r) % R) N) (xU F 0 1 (F.1 0 1 + 1)) P (N + 1) := by
      refine hIA.2.2.2.1.more (v := 1) (fun s' j hs' j1 j2 => ?_) st stN (Or.inr (Or.inl rfl)) ?_ ?_ ?_ ?_ ?_
      · rw [x_ans_hi _ _ _ j1 j2, hBo 22 _ (by decide) (by decide)]; exact ib1 s' j hs' j1 j2
      · rw [xU_j _ _ (by decide), F0, ib3, if_neg (by decide), Nat.add_zero]
      · rw [xU_s, F0, ib4, if_pos rfl, nI_1]
      · rw [xU_j _ _ (by decide), F0, ib5, if_neg (by decide), Nat.add_zero]
      · rw [if_neg (by decide)]; exact ib6
      · exact x_SW.ans (ib7.cg (fun j => hBo 1 j (by decide) (by decide)) (fun j => hBo 21 j (by decide) (by decide)) (fun j => hBo 22 j (by decide) (by decide))) (by omega) (fun j hj => by rw [hBo 15 _ (by decide) (by decide), hBo 1 _ (by decide) (by decide)]; exact hW.2.2.2.1 _ j (by omega) hj)
    have fin := hInv hA2 hB2 (fun j => by rw [x_ans_o _ _ _ _ (by decide) (by decide) (by decide) (by decide)]; exact hBo 1 j (by decide) (by decide)) (fun j => by rw [x_ans_o _ _ _ _ (by decide) (by decide) (by decide) (by decide)]; exact hBo 2 j (by decide) (by decide)) _ (wtN _ st (by rw [stN]; decide))
    rw [c_sR_id] at fin
    refine ⟨⟨M1, G2, _, N + 1, rfl, fin.mono (by omega) hT, frame1⟩, Or.inl ⟨?_, rfl⟩⟩
    show (x_ans B P ((h + r) % R) N).1 0 2 = 0
    rw [x_ans_o _ _ _ _ (by decide) (by decide) (by decide) (by decide), hB0 2 (by decide)]
    exact az2
  · have c1' : ¬ (r = R ∧ 0 < p ∧ x_wtN A 0 N = 40) := fun z => by rw [c2] at z; exact absurd z.2.1 (by decide)
    rw [if_neg c1']
    unfold x_ask4
    rw [if_neg c1, if_pos c2]
    generalize xU (xU A 0 26 (nI (N + 1))) 23 N 0 = B at hB0 hB26 hBo hB23 hB23k ⊢
    have hA2 := hAmore (Y := x_fail B N) (F := xU F 0 2 (F.1 0 2 + 1)) (fun j hj => by rw [x_fail_o _ _ (by decide) (by decide)]; exact hB0 j hj) (by rw [x_fail_o _ _ (by decide) (by decide)]; exact hB26) (fun o j g0 g1 g2 g3 g4 => by rw [x_fail_o _ _ g2 g4]; exact hBo o j g0 g2) (fun k hk => ⟨(xU_o _ _ (by decide)).trans (F1 k hk).1, (F1 k hk).2⟩) ((xU_o _ _ (by decide)).trans F2) F3
    have st : ∀ k, k < N → (x_fail B N).1 23 k = A.1 23 k := fun k hk => by rw [x_fail_st, if_neg (by omega)]; exact hB23k k hk
    have stN : (x_fail B N).1 23 N = 2 := by rw [x_fail_st, if_pos rfl]
    have hB2 : IB (x_fail B N) (xU F 0 2 (F.1 0 2 + 1)) P (N + 1) := by
      refine hIA.2.2.2.1.more (v := 2) (fun s' j hs' j1 j2 => ?_) st stN (Or.inr (Or.inr rfl)) ?_ ?_ ?_ ?_ ?_
      · rw [x_fail_o _ _ (by decide) (by decide), hBo 22 _ (by decide) (by decide)]; exact ib1 s' j hs' j1 j2
      · rw [xU_j _ _ (by decide), F0, ib3, if_neg (by decide), Nat.add_zero]
      · rw [xU_j _ _ (by decide), F0, ib4, if_neg (by decide), Nat.add_zero]
      · rw [xU_s, F0, ib5, if_pos rfl, nI_1]
      · rw [if_neg (by decide)]; exact ib6
      · exact ib7.cg (fun j => (x_fail_o _ _ (by decide) (by decide)).trans (hBo 1 j (by decide) (by decide))) (fun j => (x_fail_o _ _ (by decide) (by decide)).trans (hBo 21 j (by decide) (by decide))) (fun j => (x_fail_o _ _ (by decide) (by decide)).trans (hBo 22 j (by decide) (by decide)))
    have fin := hInv hA2 hB2 (fun j => by rw [x_fail_o _ _ (by decide) (by decide)]; exact hBo 1 j (by decide) (by decide)) (fun j => by rw [x_fail_o _ _ (by decide) (by decide)]; exact hBo 2 j (by decide) (by decide)) _ (wtN _ st (by rw [stN]; decide))
    rw [c_sR_id] at fin
    refine ⟨⟨M1, G2, _, N + 1, rfl, fin.mono (by omega) hT, frame1⟩, Or.inl ⟨?_, rfl⟩⟩
    show (x_fail B N).1 0 2 = 0
    rw [x_fail_o _ _ (by decide) (by decide), hB0 2 (by decide)]
    exact az2
  · rw [if_neg (fun z => c3 z.2.2)]
    unfold x_ask4
    rw [if_neg c1, if_neg c2]
    generalize xU (xU A 0 26 (nI (N + 1))) 23 N 0 = B at hB0 hB26 hBo hB23 hB23k ⊢
    have hA2 := hAmore (Y := B) (F := xU F 0 0 (nI (x_wtN A 0 N + 1))) hB0 hB26 (fun o j g0 g1 g2 g3 g4 => hBo o j g0 g2) (fun k hk => ⟨(xU_o _ _ (by decide)).trans (F1 k hk).1, (F1 k hk).2⟩) ((xU_o _ _ (by decide)).trans F2) F3
    have hB2 : IB B (xU F 0 0 (nI (x_wtN A 0 N + 1))) P (N + 1) := by
      refine hIA.2.2.2.1.more (v := 0) (fun s' j hs' j1 j2 => ?_) hB23k hB23 (Or.inl rfl) ?_ ?_ ?_ ?_ ?_
      · rw [hBo 22 _ (by decide) (by decide)]; exact ib1 s' j hs' j1 j2
      · rw [xU_s, if_pos rfl]
      · rw [xU_j _ _ (by decide), F0, ib4, if_neg (by decide), Nat.add_zero]
      · rw [xU_j _ _ (by decide), F0, ib5, if_neg (by decide), Nat.add_zero]
      · rw [if_pos rfl]; omega
      · exact ib7.cg (fun j => hBo 1 j (by decide) (by decide)) (fun j => hBo 21 j (by decide) (by decide)) (fun j => hBo 22 j (by decide) (by decide))
    have fin := hInv hA2 hB2 (fun j => hBo 1 j (by decide) (by decide)) (fun j => hBo 2 j (by decide) (by decide)) (fun i => if i = x_wtN A 0 N then c else am_R M1 (ca G2 24 0) i) (fun k hk hs0 => by
      have ew : ∀ k, k ≤ N → x_wtN B 0 k = x_wtN A 0 k := fun k hk => wt_cg k (fun j hj => by rw [hB23k j (by omega)])
      rw [ew k (by omega)]
      show (if x_wtN A 0 k = x_wtN A 0 N then c else am_R M1 (ca G2 24 0) (x_wtN A 0 k)) = _
      by_cases e : k = N
      · subst e
        rw [if_pos rfl]
        exact x17.2.symm
      · have kN : k < N := by omega
        have s0 : A.1 23 k = 0 := by rw [← hB23k k kN]; exact hs0
        have := wt_lt s0 kN
        rw [if_neg (by omega), M1R, xk k kN, x24.2]
        exact hwt k kN s0)
    exact ⟨⟨_, G2, _, N + 1, rfl, fin.mono (by omega) hT, frame _⟩, Or.inl ⟨(hB0 2 (by decide)).trans az2, rfl⟩⟩
  · have rR : r = R := by omega
    have hπ0 : 0 < p := by
      rw [hπ2]
      have : π ≠ 0 := fun z => c2 (by rw [hπ2, z]; rfl)
      exact nI_lt (a := 0) (by omega) (by omega)
    rw [if_pos ⟨rR, hπ0, c3⟩, ← back, vis]
    have fin := ((hIA.th 3).new 10 0 6).mono (T2 := T + 100) (by omega) hT
    refine ⟨⟨am_new m2 10 0 6, G, E, N, ?_, fin, ?_⟩, Or.inr ⟨?_, _, rfl, ?_⟩⟩
    · rw [cm_nw hI2.1, cm_th]
    · refine (hu.trans (c_up.new m2 10 0 6)).fr ?_ ?_
      · show am_n m2 + 1 ≤ _; omega
      · show am_u m2 + 6 ≤ _; omega
    · show ¬ (3 : Int32) = 0
      decide
    · exact if_pos rfl
set_option maxHeartbeats 2000000 in
theorem y_ask (hI : INV m G X E P R N T) (hrm : c_rm m) (hT : T + 100 ≤ 1000000) (s : Int32) (t : Int64) (b p kd a : Int32) : am_W sc 34 0 [.ref (ca G 1 0), .int s, .long t, .retAddr 1, .int b, .int p, .int kd, .int a, .retAddr 1, .retAddr 1, .retAddr 1] [] (cm m G X E) (y_Q ((x_ask X P R N s t b p kd a).2.1 0 2) (kdf ((x_ask X P R N s t b p kd a).2.1 0 2)) (.int (x_ask X P R N s t b p kd a).1) (y_POST m G (x_ask X P R N s t b p kd a).2 P R (T + 100))) := by
  have hL := hI.1
  have h1 := hL.2.1
  have hP := hL.2.2.2
  unfold x_ask
  refine am_iload_n iX6_ask_0 rfl rfl ?_
  refine am_bipush (i := 8) (v := 8) rfl iX6_ask_1 ?_
  cases hs : x_rg s 0 7
  · refine am_xS2 iX6_ask_3 cX6_ask_39 mX6_needIndex rfl rfl rfl (y_needIndex_x (m := cm m G X E) (B := 8) hrm s (by decide) hs) (am_out rfl ?_)
    exact y_thr hI (by omega) hT (t := 1) (by decide) 8 _
  · refine am_cS2v iX6_ask_3 cX6_ask_39 mX6_needIndex rfl rfl rfl (y_needIndex (B := 8) s (by decide) hs) ?_
    obtain ⟨n, hn, hnt, rfl⟩ := x_rg_ex 8 hs (by omega)
    refine am_aload_n iX6_ask_6 rfl rfl ?_
    refine am_iload iX6_ask_7 rfl ?_
    refine am_iload iX6_ask_9 rfl ?_
    cases hq : x_isQ P kd a
    · refine am_xV2 iX6_ask_11 cX6_ask_139 mX6_needQuestion (y_K hL (by assumption) rfl rfl) rfl rfl rfl (y_needQ_x hL hrm hq) (am_out rfl ?_)
      exact y_thr hI (by omega) hT (t := 1) (by decide) 8 _
    · refine am_cV2v iX6_ask_11 cX6_ask_139 mX6_needQuestion (y_K hL (by assumption) rfl rfl) rfl rfl rfl (y_needQ hL hq) ?_
      refine am_aload_n iX6_ask_14 rfl rfl ?_
      refine am_lload_n iX6_ask_15 rfl rfl ?_
      cases ht : x_isTok X P t
      · refine am_xV1 iX6_ask_16 cX6_ask_142 mX6_needToken (y_K hL (by assumption) rfl rfl) rfl rfl rfl (y_needToken_x hL hrm t ht) (am_out rfl ?_)
        exact y_thr hI (by omega) hT (t := 2) (by decide) 9 _
      · refine am_cV1v iX6_ask_16 cX6_ask_142 mX6_needToken (y_K hL (by assumption) rfl rfl) rfl rfl rfl (y_needToken hL hrm t ht) ?_
        refine am_iload iX6_ask_19 rfl ?_
        refine am_iconst (i := -1) (v := -1) rfl iX6_ask_21 ?_
        refine am_sipush (i := 400) (v := 400) rfl iX6_ask_22 ?_
        cases hb : x_rg b (-1) 400
        · refine am_xS3 iX6_ask_25 cX6_ask_43 mX6_needNumber rfl rfl rfl (y_needNumber_x (m := cm m G X E) hrm b (-1) 400 hb) (am_out rfl ?_)
          exact y_thr hI (by omega) hT (t := 2) (by decide) 9 _
        · refine am_cS3v iX6_ask_25 cX6_ask_43 mX6_needNumber rfl rfl rfl (y_needNumber b (-1) 400 hb) ?_
          refine am_iload iX6_ask_28 rfl ?_
          refine am_iconst (i := 0) (v := 0) rfl iX6_ask_30 ?_
          refine am_sipush (i := 1000) (v := 1000) rfl iX6_ask_31 ?_
          cases hp : x_rg p 0 1000
          · refine am_xS3 iX6_ask_34 cX6_ask_43 mX6_needNumber rfl rfl rfl (y_needNumber_x (m := cm m G X E) hrm p 0 1000 hp) (am_out rfl ?_)
            exact y_thr hI (by omega) hT (t := 2) (by decide) 9 _
          · refine am_cS3v iX6_ask_34 cX6_ask_43 mX6_needNumber rfl rfl rfl (y_needNumber p 0 1000 hp) ?_
            rw [if_neg (by decide), if_neg (by decide), hnt]
            have hN := hI.2.2.1.1.2.1
            have hN2 := hN.2.1
            refine am_aload_n iX6_ask_37 rfl rfl ?_
            refine y_getI (o := 0) hL (by assumption) iX6_ask_38 fX6_ask_146 rfl rfl rfl rfl ?_
            rw [hN.1]
            refine am_sipush (i := 500) (v := 500) rfl iX6_ask_41 ?_
            by_cases c : N = 500
            · rw [if_pos c]
              refine am_icmp_lt iX6_ask_44 (fun hc => absurd hc (fun q => absurd ((nI_ltI (a := N) (b := 500) (by omega) (by omega)).mp q) (by omega))) (fun _ => ?_)
              refine am_throw tX6_ask_47 rfl iX6_ask_47 iX6_ask_50 iX6_ask_51 iX6_ask_53 iX6_ask_56 (Nat.le_of_ble_eq_true rfl) (Nat.le_of_ble_eq_true rfl) ?_ ?_ ?_
              · have := hrm.1; show am_n m + 1 ≤ _; omega
              · have := hrm.2; show am_u m + 6 ≤ _; omega
              · exact y_thr hI (by omega) hT (t := 3) (by decide) 10 _
            · rw [if_neg c]
              refine am_icmp_lt iX6_ask_44 (fun _ => ?_) (fun hc => absurd (nI_lt (a := N) (b := 500) (by omega) (by omega)) hc)
              obtain ⟨h, hh, hht, hh2⟩ := x_ix_ex (hI.2.2.1.1.2.2.2.2.2.2 n hn)
              rw [hht, ← cm_th (X := X) (t := 0)]
              have hI0 := hI.th 0
              have h20 : (x_th X 0).1 20 n = nI h := hh2
              have hz2 : (x_th X 0).1 0 2 = 0 := rfl
              generalize x_th X 0 = Z at hI0 h20 hz2 ⊢
              refine am_newo (ci := 2) (N := 11) iX6_ask_57 (by decide) rfl wd_132 wd_549 wd_16 (by have := hrm.1; show am_n m + 1 ≤ _; omega) (by have := hrm.2; show am_u m + 11 ≤ _; omega) ?_
              rw [cm_nw hL]
              have hL0 := hL
              have hL := hL0.new 2 0 11
              show am_W _ _ _ _ (.ref (am_n m + 1) :: _) _ _
              refine am_dup iX6_ask_60 rfl ?_
              refine am_iload_n iX6_ask_61 rfl rfl ?_
              refine am_lload_n iX6_ask_62 rfl rfl ?_
              refine am_iload iX6_ask_63 rfl ?_
              refine am_aload_n iX6_ask_65 rfl rfl ?_
              refine y_getI (o := 0) hL (by assumption) iX6_ask_66 fX6_ask_107 rfl rfl rfl rfl ?_
              refine am_iload iX6_ask_69 rfl ?_
              refine am_iadd iX6_ask_71 ?_
              refine am_iload iX6_ask_72 rfl ?_
              refine am_iload iX6_ask_74 rfl ?_
              have ha0 : (co G (am_n m + 1)).1 = 0 := hL0.n0 (Nat.lt_succ_self _)
              refine am_cI6v iX6_ask_76 cX6_ask_151 mX2_init ((by omega)) rfl rfl rfl (y_Read ha0 (if_pos rfl) (by omega)) ?_
              have up2 : c_up m (c_Rd (am_new m 2 0 11) (am_n m + 1) (nI n) t b (Z.1 0 3 + p) kd a) := (((((((((c_up.new m 2 0 11).setI (by omega) _ _).setI (by omega) _ _).setI (by omega) _ _).setI (by omega) _ _).setJ (by omega) _ _).setI (by omega) _ _).setI (by omega) _ _).setI (by omega) _ _).setI (by omega) _ _
              refine am_astore_8 iX6_ask_79 rfl rfl ?_
              refine y_ask_end hI0 (by omega) ⟨?_, ?_⟩ up2 hn h20 hh hb hp hq rfl (by omega) (Nat.le_refl _) (if_pos rfl) (if_pos rfl) c_Rd_I ⟨?_, ?_, ?_⟩ hT hz2 (Nat.le_refl _) (Nat.le_refl _)
              · have := hrm.1; show am_n m + 1 + 1 ≤ _; omega
              · have := hrm.2; show am_u m + 11 + 6 ≤ _; omega
              · rw [c_Rd_J, if_pos rfl]
              · rw [c_Rd_J, if_neg (by decide)]; exact if_pos rfl
              · rw [c_Rd_J, if_neg (by decide)]; exact if_pos rfl
end
