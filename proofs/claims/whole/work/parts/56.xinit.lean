/-! the reference's constructor -/
section
variable {sc : Nat × (Nat → Int32)} {m m0 : am_Mem} {M : Nat} {P R N : Nat}
def x_sz : Nat → Nat
  | 0 => 0
  | n + 1 => x_sz n + xl (n + 1)
/-- the object M and its first i arrays stand, all zero; what was before is as it was -/
def x_bld (m0 : am_Mem) (M i : Nat) (m : am_Mem) : Prop :=
  am_n m = M + i ∧ am_u m = am_u m0 + x_sz i ∧ am_K m M = 7 ∧ (∀ o, 1 ≤ o → o ≤ i → am_K m (M + o) = xk o ∧ am_L m (M + o) = xl o) ∧ (∀ j, j < 39 → xof j ≠ 0 → xof j ≤ i → am_R m M j = M + xof j) ∧
  (∀ o j, o ≤ i → am_I m (M + o) j = 0 ∧ am_J m (M + o) j = 0) ∧ ∀ a, a < M → am_K m a = am_K m0 a ∧ am_L m a = am_L m0 a ∧ ∀ j, am_I m a j = am_I m0 a j ∧ am_J m a j = am_J m0 a j ∧ am_R m a j = am_R m0 a j
theorem x_bld.step {i kd len j : Nat} (h : x_bld m0 M i m) (h1 : xk (i + 1) = kd) (h2 : xl (i + 1) = len) (h3 : xof j = i + 1) (hu : ∀ j', j' < 39 → xof j' = i + 1 → j' = j) : x_bld m0 M (i + 1) (am_setR (am_new m kd len len) M j (am_n m + 1)) := by
  obtain ⟨a1, a2, a3, a4, a5, a6, a7⟩ := h
  have e1 : am_n m + 1 = M + (i + 1) := by omega
  refine ⟨e1, ?_, ?_, fun o ho1 ho2 => ?_, fun j' hj hj1 hj2 => ?_, fun o j' ho => ?_, fun a ha => ⟨?_, ?_, fun j' => ⟨?_, ?_, ?_⟩⟩⟩
  · show am_u m + len = _
    rw [a2, ← h2]
    show _ = am_u m0 + (x_sz i + xl (i + 1))
    omega
  · show (if M = am_n m + 1 then kd else am_K m M) = 7
    rw [if_neg (by omega)]
    exact a3
  · show (if M + o = am_n m + 1 then kd else am_K m (M + o)) = _ ∧ (if M + o = am_n m + 1 then len else am_L m (M + o)) = _
    by_cases e : o = i + 1
    · subst e
      rw [if_pos (by omega), if_pos (by omega)]
      exact ⟨h1.symm, h2.symm⟩
    · rw [if_neg (by omega), if_neg (by omega)]
      exact a4 o ho1 (by omega)
  · show (if M = M ∧ j' = j then am_n m + 1 else if M = am_n m + 1 then 0 else am_R m M j') = _
    by_cases e : j' = j
    · subst e
      rw [if_pos ⟨rfl, rfl⟩, h3]
      exact e1
    · rw [if_neg (fun q => e q.2), if_neg (by omega)]
      refine a5 j' hj hj1 ?_
      rcases Nat.lt_or_ge i (xof j') with q | q
      · exact absurd (hu j' hj (by omega)) e
      · exact q
  · show (if M + o = am_n m + 1 then 0 else am_I m (M + o) j') = 0 ∧ (if M + o = am_n m + 1 then 0 else am_J m (M + o) j') = 0
    by_cases e : M + o = am_n m + 1
    · rw [if_pos e, if_pos e]
      exact ⟨rfl, rfl⟩
    · rw [if_neg e, if_neg e]
      exact a6 o j' (by omega)
  · show (if a = am_n m + 1 then kd else am_K m a) = _
    rw [if_neg (by omega)]
    exact (a7 a ha).1
  · show (if a = am_n m + 1 then len else am_L m a) = _
    rw [if_neg (by omega)]
    exact (a7 a ha).2.1
  · show (if a = am_n m + 1 then 0 else am_I m a j') = _
    rw [if_neg (by omega)]
    exact ((a7 a ha).2.2 j').1
  · show (if a = am_n m + 1 then 0 else am_J m a j') = _
    rw [if_neg (by omega)]
    exact ((a7 a ha).2.2 j').2.1
  · show (if a = M ∧ j' = j then am_n m + 1 else if a = am_n m + 1 then 0 else am_R m a j') = _
    rw [if_neg (by omega), if_neg (by omega)]
    exact ((a7 a ha).2.2 j').2.2
theorem x_sz_le : ∀ i, i ≤ 34 → x_sz i ≤ 22000 := by decide
theorem x_of_u : ∀ i, i < 34 → ∀ j', j' < 39 → xof j' = i + 1 → j' = (if i + 1 ≤ 22 then i + 4 else i + 5) := by
  intro i hi j' hj h
  unfold xof at h
  split at h
  · split <;> omega
  · split at h
    · split <;> omega
    · omega
theorem x_bld.room {i : Nat} (h : x_bld m0 M i m) (hi : i < 34) (hn : am_n m0 = M) (hr : am_n m0 + 34 ≤ am_CM) (hu : am_u m0 + 22000 ≤ am_SM) {len : Nat} (hl : xl (i + 1) = len) : am_n m + 1 ≤ am_CM ∧ am_u m + len ≤ am_SM := by
  obtain ⟨a1, a2, -⟩ := h
  have h1 := x_sz_le (i + 1) (by omega)
  have h2 : x_sz (i + 1) = x_sz i + xl (i + 1) := rfl
  omega
def x_X0 : ms_X := (fun _ _ => 0, fun _ _ => 0)
theorem x_bld.xm (h : x_bld m0 M 34 m) : m = xm m M x_X0 := by
  obtain ⟨a1, a2, a3, a4, a5, a6, a7⟩ := h
  show (m.1, m.2.1, m.2.2.1, m.2.2.2.1, m.2.2.2.2.1, m.2.2.2.2.2) = (m.1, m.2.1, m.2.2.1, am_reg M x_X0.1 m.2.2.2.1, am_reg M x_X0.2 m.2.2.2.2.1, m.2.2.2.2.2)
  have e1 : am_reg M x_X0.1 m.2.2.2.1 = m.2.2.2.1 := by
    funext a j
    unfold am_reg
    split
    · rename_i q
      have := (a6 (a - M) j (by omega)).1
      rw [show M + (a - M) = a by omega] at this
      exact this.symm
    · rfl
  have e2 : am_reg M x_X0.2 m.2.2.2.2.1 = m.2.2.2.2.1 := by
    funext a j
    unfold am_reg
    split
    · rename_i q
      have := (a6 (a - M) j (by omega)).2
      rw [show M + (a - M) = a by omega] at this
      exact this.symm
    · rfl
  rw [e1, e2]
theorem x_bld.lm (h : x_bld m0 M 34 m) : LM m M := by
  obtain ⟨a1, a2, a3, a4, a5, a6, a7⟩ := h
  refine ⟨a3, fun o h1 h2 => a4 o h1 (by omega), fun j hj h => a5 j hj h ?_⟩
  unfold xof
  split
  · omega
  · split <;> omega
def x_nP (p : Int32) : Nat := if x_rg p 1 3 = true then nt p else 2
def x_nR (p : Int32) : Nat := if x_rg p 1 4 = true then nt p else 2
def x_upN (X : ms_X) : Nat → ms_X
  | 0 => X
  | r + 1 => xU (x_upN X r) 18 r 1
def x_prN (X : ms_X) : Nat → ms_X
  | 0 => X
  | r + 1 => xU (x_prN X r) 11 r 1
theorem x_upN_o (X : ms_X) {a j : Nat} (h : a ≠ 18) : ∀ r, (x_upN X r).1 a j = X.1 a j
  | 0 => rfl
  | r + 1 => (xU_o _ _ h).trans (x_upN_o X h r)
theorem x_prN_o (X : ms_X) {a j : Nat} (h : a ≠ 11) : ∀ r, (x_prN X r).1 a j = X.1 a j
  | 0 => rfl
  | r + 1 => (xU_o _ _ h).trans (x_prN_o X h r)
def x_ini (P R : Nat) : ms_X := x_prN (x_upN (xU (xU x_X0 0 0 (nI P)) 0 1 (nI R)) R) 240
theorem x_init_tail (hM : LM m M) (hR : R ≤ 4) (X : ms_X) (h0 : X.1 0 1 = nI R) {Q : am_Out → am_Mem → Prop} (hQ : Q (.inl none) (xm m M (x_prN (x_upN X R) 240))) {v1 v2 : Int32} : ∀ d r : Nat, r + d = R → am_W sc 65 333 [.ref M, .int v1, .int v2, .int (nI r)] [] (xm m M (x_upN X r)) Q := by
  have l2 : ∀ d r : Nat, r + d = 240 → am_W sc 65 356 [.ref M, .int v1, .int v2, .int (nI r)] [] (xm m M (x_prN (x_upN X R) r)) Q := by
    intro d
    induction d with
    | zero =>
      intro r hr
      have e : r = 240 := by omega
      subst e
      refine am_iload_n iX7_init_356 rfl rfl ?_
      refine am_sipush (i := 240) (v := 240) rfl iX7_init_357 ?_
      refine am_icmp_ge iX7_init_360 (fun _ => ?_) (fun hc => absurd (by decide) hc)
      exact am_vret iX7_init_376 rfl hQ
    | succ d ih =>
      intro r hr
      refine am_iload_n iX7_init_356 rfl rfl ?_
      refine am_sipush (i := 240) (v := 240) rfl iX7_init_357 ?_
      refine am_icmp_ge iX7_init_360 (fun hc => absurd hc (fun q => absurd ((nI_leI (b := r) (a := 240) (by omega) (by omega)).mp q) (by omega))) (fun _ => ?_)
      refine am_aload_n iX7_init_363 rfl rfl ?_
      refine x_getR 11 hM iX7_init_364 fX7_init_40 rfl rfl rfl ?_
      refine am_iload_n iX7_init_367 rfl rfl ?_
      refine am_iconst (i := 1) (v := 1) rfl iX7_init_368 ?_
      refine x_iast (r) hM rfl iX7_init_369 (by first | rfl | simp only [nI_add, pk_mul, nI_1, nL0, nL1, nL2, nL3, nL4, nL10, nL30, nL300, nL401]) ((show r < 240 by omega)) ?_
      refine am_iinc_3 1 iX7_init_370 rfl rfl rfl ?_
      refine am_goto iX7_init_373 ?_
      rw [nI_1]
      exact ih (r + 1) (by omega)
  intro d
  induction d with
  | zero =>
    intro r hr
    have e : r = R := by omega
    subst e
    refine am_iload_n iX7_init_333 rfl rfl ?_
    refine am_aload_n iX7_init_334 rfl rfl ?_
    refine x_getI hM iX7_init_335 fX7_init_118 ?_
    rw [x_upN_o _ (by decide), h0]
    refine am_icmp_ge iX7_init_338 (fun _ => ?_) (fun hc => absurd (nI_le (Nat.le_refl _) (by omega)) hc)
    refine am_iconst (i := 0) (v := 0) rfl iX7_init_354 ?_
    refine am_istore_n_3 iX7_init_355 rfl rfl ?_
    exact l2 240 0 rfl
  | succ d ih =>
    intro r hr
    refine am_iload_n iX7_init_333 rfl rfl ?_
    refine am_aload_n iX7_init_334 rfl rfl ?_
    refine x_getI hM iX7_init_335 fX7_init_118 ?_
    rw [x_upN_o _ (by decide), h0]
    refine am_icmp_ge iX7_init_338 (fun hc => absurd hc (fun q => absurd ((nI_leI (by omega) (by omega)).mp q) (by omega))) (fun _ => ?_)
    refine am_aload_n iX7_init_341 rfl rfl ?_
    refine x_getR 18 hM iX7_init_342 fX7_init_62 rfl rfl rfl ?_
    refine am_iload_n iX7_init_345 rfl rfl ?_
    refine am_iconst (i := 1) (v := 1) rfl iX7_init_346 ?_
    refine x_zast (r) hM rfl iX7_init_347 (by first | rfl | simp only [nI_add, pk_mul, nI_1, nL0, nL1, nL2, nL3, nL4, nL10, nL30, nL300, nL401]) ((show r < 4 by omega)) (Or.inr rfl) ?_
    refine am_iinc_3 1 iX7_init_348 rfl rfl rfl ?_
    refine am_goto iX7_init_351 ?_
    rw [nI_1]
    exact ih (r + 1) (by omega)
theorem x_rg_i {p : Int32} {b n : Int} (h : x_rg p n b = true) (hn : 0 ≤ n) (hb : b < 1000) : p = nI (nt p) ∧ n ≤ nt p ∧ (nt p : Int) ≤ b := by
  have h1 := of_decide_eq_true h
  have h2 : ¬ p < 0 := by
    rw [Int32.lt_iff_toInt_lt, Int32.toInt_zero]; omega
  obtain ⟨j, hj, rfl⟩ := nI_of h2
  rw [nI_toInt hj] at h1
  rw [nt_nI hj]
  exact ⟨rfl, h1.1, h1.2⟩
theorem x_nP_le (p : Int32) : 1 ≤ x_nP p ∧ x_nP p ≤ 3 := by
  unfold x_nP
  split
  · rename_i h
    have := x_rg_i h (by omega) (by omega)
    omega
  · omega
theorem x_nR_le (p : Int32) : 1 ≤ x_nR p ∧ x_nR p ≤ 4 := by
  unfold x_nR
  split
  · rename_i h
    have := x_rg_i h (by omega) (by omega)
    omega
  · omega
theorem x_rgC {p : Int32} {a b : Int32} (h1 : ¬ p < a) (h2 : ¬ b < p) : x_rg p a.toInt b.toInt = true := by
  rw [Int32.lt_iff_toInt_lt] at h1 h2
  exact decide_eq_true ⟨by omega, by omega⟩
theorem x_rgC1 {p : Int32} {a b : Int32} (h1 : p < a) : x_rg p a.toInt b.toInt = false := by
  rw [Int32.lt_iff_toInt_lt] at h1
  exact decide_eq_false (fun q => by omega)
theorem x_rgC2 {p : Int32} {a b : Int32} (h1 : b < p) : x_rg p a.toInt b.toInt = false := by
  rw [Int32.lt_iff_toInt_lt] at h1
  exact decide_eq_false (fun q => by omega)
theorem x_init_mid (hM : LM m M) {p r : Int32} {Q : am_Out → am_Mem → Prop} (hQ : Q (.inl none) (xm m M (x_ini (x_nP p) (x_nR r)))) {v : Value} : am_W sc 65 293 [.ref M, .int p, .int r, v] [] (xm m M x_X0) Q := by
  have s3 : ∀ q : Nat, (∀ w : Nat, w = x_nR r → Q (.inl none) (xm m M (x_ini q w))) → am_W sc 65 309 [.ref M, .int p, .int r, v] [.int (nI q), .ref M] (xm m M x_X0) Q := by
    intro q hq
    have s4 : ∀ w : Nat, w = x_nR r → am_W sc 65 328 [.ref M, .int p, .int r, v] [.int (nI w), .ref M] (xm m M (xU x_X0 0 0 (nI q))) Q := by
      intro w hw
      refine x_putI hM iX7_init_328 fX7_init_118 rfl rfl ?_
      refine am_iconst (i := 0) (v := 0) rfl iX7_init_331 ?_
      refine am_istore_n_3 iX7_init_332 rfl rfl ?_
      exact x_init_tail hM (by rw [hw]; exact (x_nR_le r).2) (xU (xU x_X0 0 0 (nI q)) 0 1 (nI w)) (xU_s _ _ _ _) (hq w hw) w 0 (by omega)
    refine x_putI hM iX7_init_309 fX7_init_114 rfl rfl ?_
    refine am_aload_n iX7_init_312 rfl rfl ?_
    refine am_iload_n iX7_init_313 rfl rfl ?_
    refine am_iconst (i := 1) (v := 1) rfl iX7_init_314 ?_
    refine am_icmp_lt iX7_init_315 (fun h1 => ?_) (fun h1 => ?_)
    · refine am_iconst (i := 2) (v := 2) rfl iX7_init_327 ?_
      exact s4 2 (by unfold x_nR; rw [if_neg (by rw [show x_rg r 1 4 = false from x_rgC1 (a := 1) (b := 4) h1]; decide)])
    · refine am_iload_n iX7_init_318 rfl rfl ?_
      refine am_iconst (i := 4) (v := 4) rfl iX7_init_319 ?_
      refine am_icmp_gt iX7_init_320 (fun h2 => ?_) (fun h2 => ?_)
      · refine am_iconst (i := 2) (v := 2) rfl iX7_init_327 ?_
        exact s4 2 (by unfold x_nR; rw [if_neg (by rw [show x_rg r 1 4 = false from x_rgC2 (a := 1) (b := 4) h2]; decide)])
      · have h3 : x_rg r 1 4 = true := x_rgC (a := 1) (b := 4) h1 h2
        refine am_iload_n iX7_init_323 rfl rfl ?_
        refine am_goto iX7_init_324 ?_
        have := s4 (nt r) (by unfold x_nR; rw [if_pos h3])
        rw [← (x_rg_i h3 (by omega) (by omega)).1] at this
        exact this
  refine am_aload_n iX7_init_293 rfl rfl ?_
  refine am_iload_n iX7_init_294 rfl rfl ?_
  refine am_iconst (i := 1) (v := 1) rfl iX7_init_295 ?_
  refine am_icmp_lt iX7_init_296 (fun h1 => ?_) (fun h1 => ?_)
  · refine am_iconst (i := 2) (v := 2) rfl iX7_init_308 ?_
    exact s3 2 (fun w hw => by subst hw; rw [show x_nP p = 2 by unfold x_nP; rw [if_neg (by rw [show x_rg p 1 3 = false from x_rgC1 (a := 1) (b := 3) h1]; decide)]] at hQ; exact hQ)
  · refine am_iload_n iX7_init_299 rfl rfl ?_
    refine am_iconst (i := 3) (v := 3) rfl iX7_init_300 ?_
    refine am_icmp_gt iX7_init_301 (fun h2 => ?_) (fun h2 => ?_)
    · refine am_iconst (i := 2) (v := 2) rfl iX7_init_308 ?_
      exact s3 2 (fun w hw => by subst hw; rw [show x_nP p = 2 by unfold x_nP; rw [if_neg (by rw [show x_rg p 1 3 = false from x_rgC2 (a := 1) (b := 3) h2]; decide)]] at hQ; exact hQ)
    · have h3 : x_rg p 1 3 = true := x_rgC (a := 1) (b := 3) h1 h2
      refine am_iload_n iX7_init_304 rfl rfl ?_
      refine am_goto iX7_init_305 ?_
      have := s3 (nt p) (fun w hw => by subst hw; rw [show x_nP p = nt p by unfold x_nP; rw [if_pos h3]] at hQ; exact hQ)
      rw [← (x_rg_i h3 (by omega) (by omega)).1] at this
      exact this
theorem x_init_a3 {p r : Int32} {v : Value} {Q : am_Out → am_Mem → Prop} (hn : am_n m0 = M) (hr : am_n m0 + 34 ≤ am_CM) (hu : am_u m0 + 22000 ≤ am_SM) (hQ : ∀ m, x_bld m0 M 34 m → Q (.inl none) (xm m M (x_ini (x_nP p) (x_nR r)))) (h : x_bld m0 M 26 m) : am_W sc 65 221 [.ref M, .int p, .int r, v] [] m Q := by
  refine am_aload_n iX7_init_221 rfl rfl ?_
  refine am_sipush (i := 500) (v := 500) rfl iX7_init_222 ?_
  refine am_newaI (N := 500) iX7_init_225 wd_81 (by decide) (by decide) (by decide) ((h.room (len := 500) (by omega) hn hr hu rfl).1) ((h.room (len := 500) (by omega) hn hr hu rfl).2) ?_
  refine am_putR iX7_init_227 fX7_init_90 (by decide +kernel) ((am_new_Ko (by have := h.1; omega)).trans h.2.2.1) ?_
  replace h := h.step (kd := 11) (len := 500) (j := 31) rfl rfl rfl (x_of_u 26 (by omega))
  generalize am_setR (am_new m 11 500 500) M 31 (am_n m + 1) = m at h ⊢
  refine am_aload_n iX7_init_230 rfl rfl ?_
  refine am_sipush (i := 500) (v := 500) rfl iX7_init_231 ?_
  refine am_newaI (N := 500) iX7_init_234 wd_81 (by decide) (by decide) (by decide) ((h.room (len := 500) (by omega) hn hr hu rfl).1) ((h.room (len := 500) (by omega) hn hr hu rfl).2) ?_
  refine am_putR iX7_init_236 fX7_init_93 (by decide +kernel) ((am_new_Ko (by have := h.1; omega)).trans h.2.2.1) ?_
  replace h := h.step (kd := 11) (len := 500) (j := 32) rfl rfl rfl (x_of_u 27 (by omega))
  generalize am_setR (am_new m 11 500 500) M 32 (am_n m + 1) = m at h ⊢
  refine am_aload_n iX7_init_239 rfl rfl ?_
  refine am_sipush (i := 500) (v := 500) rfl iX7_init_240 ?_
  refine am_newaI (N := 500) iX7_init_243 wd_81 (by decide) (by decide) (by decide) ((h.room (len := 500) (by omega) hn hr hu rfl).1) ((h.room (len := 500) (by omega) hn hr hu rfl).2) ?_
  refine am_putR iX7_init_245 fX7_init_96 (by decide +kernel) ((am_new_Ko (by have := h.1; omega)).trans h.2.2.1) ?_
  replace h := h.step (kd := 11) (len := 500) (j := 33) rfl rfl rfl (x_of_u 28 (by omega))
  generalize am_setR (am_new m 11 500 500) M 33 (am_n m + 1) = m at h ⊢
  refine am_aload_n iX7_init_248 rfl rfl ?_
  refine am_sipush (i := 500) (v := 500) rfl iX7_init_249 ?_
  refine am_newaI (N := 500) iX7_init_252 wd_81 (by decide) (by decide) (by decide) ((h.room (len := 500) (by omega) hn hr hu rfl).1) ((h.room (len := 500) (by omega) hn hr hu rfl).2) ?_
  refine am_putR iX7_init_254 fX7_init_99 (by decide +kernel) ((am_new_Ko (by have := h.1; omega)).trans h.2.2.1) ?_
  replace h := h.step (kd := 11) (len := 500) (j := 34) rfl rfl rfl (x_of_u 29 (by omega))
  generalize am_setR (am_new m 11 500 500) M 34 (am_n m + 1) = m at h ⊢
  refine am_aload_n iX7_init_257 rfl rfl ?_
  refine am_sipush (i := 500) (v := 500) rfl iX7_init_258 ?_
  refine am_newaI (N := 500) iX7_init_261 wd_81 (by decide) (by decide) (by decide) ((h.room (len := 500) (by omega) hn hr hu rfl).1) ((h.room (len := 500) (by omega) hn hr hu rfl).2) ?_
  refine am_putR iX7_init_263 fX7_init_102 (by decide +kernel) ((am_new_Ko (by have := h.1; omega)).trans h.2.2.1) ?_
  replace h := h.step (kd := 11) (len := 500) (j := 35) rfl rfl rfl (x_of_u 30 (by omega))
  generalize am_setR (am_new m 11 500 500) M 35 (am_n m + 1) = m at h ⊢
  refine am_aload_n iX7_init_266 rfl rfl ?_
  refine am_sipush (i := 500) (v := 500) rfl iX7_init_267 ?_
  refine am_newaJ (N := 500) iX7_init_270 wd_82 (by decide) (by decide) (by decide) ((h.room (len := 500) (by omega) hn hr hu rfl).1) ((h.room (len := 500) (by omega) hn hr hu rfl).2) ?_
  refine am_putR iX7_init_272 fX7_init_105 (by decide +kernel) ((am_new_Ko (by have := h.1; omega)).trans h.2.2.1) ?_
  replace h := h.step (kd := 12) (len := 500) (j := 36) rfl rfl rfl (x_of_u 31 (by omega))
  generalize am_setR (am_new m 12 500 500) M 36 (am_n m + 1) = m at h ⊢
  refine am_aload_n iX7_init_275 rfl rfl ?_
  refine am_sipush (i := 500) (v := 500) rfl iX7_init_276 ?_
  refine am_newaJ (N := 500) iX7_init_279 wd_82 (by decide) (by decide) (by decide) ((h.room (len := 500) (by omega) hn hr hu rfl).1) ((h.room (len := 500) (by omega) hn hr hu rfl).2) ?_
  refine am_putR iX7_init_281 fX7_init_108 (by decide +kernel) ((am_new_Ko (by have := h.1; omega)).trans h.2.2.1) ?_
  replace h := h.step (kd := 12) (len := 500) (j := 37) rfl rfl rfl (x_of_u 32 (by omega))
  generalize am_setR (am_new m 12 500 500) M 37 (am_n m + 1) = m at h ⊢
  refine am_aload_n iX7_init_284 rfl rfl ?_
  refine am_sipush (i := 500) (v := 500) rfl iX7_init_285 ?_
  refine am_newaI (N := 500) iX7_init_288 wd_81 (by decide) (by decide) (by decide) ((h.room (len := 500) (by omega) hn hr hu rfl).1) ((h.room (len := 500) (by omega) hn hr hu rfl).2) ?_
  refine am_putR iX7_init_290 fX7_init_111 (by decide +kernel) ((am_new_Ko (by have := h.1; omega)).trans h.2.2.1) ?_
  replace h := h.step (kd := 11) (len := 500) (j := 38) rfl rfl rfl (x_of_u 33 (by omega))
  generalize am_setR (am_new m 11 500 500) M 38 (am_n m + 1) = m at h ⊢
  rw [h.xm]
  exact x_init_mid h.lm (hQ _ h)
theorem x_init_a2 {p r : Int32} {v : Value} {Q : am_Out → am_Mem → Prop} (hn : am_n m0 = M) (hr : am_n m0 + 34 ≤ am_CM) (hu : am_u m0 + 22000 ≤ am_SM) (hQ : ∀ m, x_bld m0 M 34 m → Q (.inl none) (xm m M (x_ini (x_nP p) (x_nR r)))) (h : x_bld m0 M 18 m) : am_W sc 65 153 [.ref M, .int p, .int r, v] [] m Q := by
  refine am_aload_n iX7_init_153 rfl rfl ?_
  refine am_bipush (i := 8) (v := 8) rfl iX7_init_154 ?_
  refine am_newaI (N := 8) iX7_init_156 wd_81 (by decide) (by decide) (by decide) ((h.room (len := 8) (by omega) hn hr hu rfl).1) ((h.room (len := 8) (by omega) hn hr hu rfl).2) ?_
  refine am_putR iX7_init_158 fX7_init_66 (by decide +kernel) ((am_new_Ko (by have := h.1; omega)).trans h.2.2.1) ?_
  replace h := h.step (kd := 11) (len := 8) (j := 22) rfl rfl rfl (x_of_u 18 (by omega))
  generalize am_setR (am_new m 11 8 8) M 22 (am_n m + 1) = m at h ⊢
  refine am_aload_n iX7_init_161 rfl rfl ?_
  refine am_bipush (i := 8) (v := 8) rfl iX7_init_162 ?_
  refine am_newaI (N := 8) iX7_init_164 wd_81 (by decide) (by decide) (by decide) ((h.room (len := 8) (by omega) hn hr hu rfl).1) ((h.room (len := 8) (by omega) hn hr hu rfl).2) ?_
  refine am_putR iX7_init_166 fX7_init_69 (by decide +kernel) ((am_new_Ko (by have := h.1; omega)).trans h.2.2.1) ?_
  replace h := h.step (kd := 11) (len := 8) (j := 23) rfl rfl rfl (x_of_u 19 (by omega))
  generalize am_setR (am_new m 11 8 8) M 23 (am_n m + 1) = m at h ⊢
  refine am_aload_n iX7_init_169 rfl rfl ?_
  refine am_bipush (i := 24) (v := 24) rfl iX7_init_170 ?_
  refine am_newaI (N := 24) iX7_init_172 wd_81 (by decide) (by decide) (by decide) ((h.room (len := 24) (by omega) hn hr hu rfl).1) ((h.room (len := 24) (by omega) hn hr hu rfl).2) ?_
  refine am_putR iX7_init_174 fX7_init_72 (by decide +kernel) ((am_new_Ko (by have := h.1; omega)).trans h.2.2.1) ?_
  replace h := h.step (kd := 11) (len := 24) (j := 24) rfl rfl rfl (x_of_u 20 (by omega))
  generalize am_setR (am_new m 11 24 24) M 24 (am_n m + 1) = m at h ⊢
  refine am_aload_n iX7_init_177 rfl rfl ?_
  refine am_bipush (i := 24) (v := 24) rfl iX7_init_178 ?_
  refine am_newaI (N := 24) iX7_init_180 wd_81 (by decide) (by decide) (by decide) ((h.room (len := 24) (by omega) hn hr hu rfl).1) ((h.room (len := 24) (by omega) hn hr hu rfl).2) ?_
  refine am_putR iX7_init_182 fX7_init_75 (by decide +kernel) ((am_new_Ko (by have := h.1; omega)).trans h.2.2.1) ?_
  replace h := h.step (kd := 11) (len := 24) (j := 25) rfl rfl rfl (x_of_u 21 (by omega))
  generalize am_setR (am_new m 11 24 24) M 25 (am_n m + 1) = m at h ⊢
  refine am_aload_n iX7_init_185 rfl rfl ?_
  refine am_sipush (i := 500) (v := 500) rfl iX7_init_186 ?_
  refine am_newaI (N := 500) iX7_init_189 wd_81 (by decide) (by decide) (by decide) ((h.room (len := 500) (by omega) hn hr hu rfl).1) ((h.room (len := 500) (by omega) hn hr hu rfl).2) ?_
  refine am_putR iX7_init_191 fX7_init_78 (by decide +kernel) ((am_new_Ko (by have := h.1; omega)).trans h.2.2.1) ?_
  replace h := h.step (kd := 11) (len := 500) (j := 27) rfl rfl rfl (x_of_u 22 (by omega))
  generalize am_setR (am_new m 11 500 500) M 27 (am_n m + 1) = m at h ⊢
  refine am_aload_n iX7_init_194 rfl rfl ?_
  refine am_sipush (i := 500) (v := 500) rfl iX7_init_195 ?_
  refine am_newaI (N := 500) iX7_init_198 wd_81 (by decide) (by decide) (by decide) ((h.room (len := 500) (by omega) hn hr hu rfl).1) ((h.room (len := 500) (by omega) hn hr hu rfl).2) ?_
  refine am_putR iX7_init_200 fX7_init_81 (by decide +kernel) ((am_new_Ko (by have := h.1; omega)).trans h.2.2.1) ?_
  replace h := h.step (kd := 11) (len := 500) (j := 28) rfl rfl rfl (x_of_u 23 (by omega))
  generalize am_setR (am_new m 11 500 500) M 28 (am_n m + 1) = m at h ⊢
  refine am_aload_n iX7_init_203 rfl rfl ?_
  refine am_sipush (i := 1500) (v := 1500) rfl iX7_init_204 ?_
  refine am_newaI (N := 1500) iX7_init_207 wd_81 (by decide) (by decide) (by decide) ((h.room (len := 1500) (by omega) hn hr hu rfl).1) ((h.room (len := 1500) (by omega) hn hr hu rfl).2) ?_
  refine am_putR iX7_init_209 fX7_init_84 (by decide +kernel) ((am_new_Ko (by have := h.1; omega)).trans h.2.2.1) ?_
  replace h := h.step (kd := 11) (len := 1500) (j := 29) rfl rfl rfl (x_of_u 24 (by omega))
  generalize am_setR (am_new m 11 1500 1500) M 29 (am_n m + 1) = m at h ⊢
  refine am_aload_n iX7_init_212 rfl rfl ?_
  refine am_sipush (i := 500) (v := 500) rfl iX7_init_213 ?_
  refine am_newaI (N := 500) iX7_init_216 wd_81 (by decide) (by decide) (by decide) ((h.room (len := 500) (by omega) hn hr hu rfl).1) ((h.room (len := 500) (by omega) hn hr hu rfl).2) ?_
  refine am_putR iX7_init_218 fX7_init_87 (by decide +kernel) ((am_new_Ko (by have := h.1; omega)).trans h.2.2.1) ?_
  replace h := h.step (kd := 11) (len := 500) (j := 30) rfl rfl rfl (x_of_u 25 (by omega))
  generalize am_setR (am_new m 11 500 500) M 30 (am_n m + 1) = m at h ⊢
  exact x_init_a3 hn hr hu hQ h
theorem x_init_a1 {p r : Int32} {v : Value} {Q : am_Out → am_Mem → Prop} (hn : am_n m0 = M) (hr : am_n m0 + 34 ≤ am_CM) (hu : am_u m0 + 22000 ≤ am_SM) (hQ : ∀ m, x_bld m0 M 34 m → Q (.inl none) (xm m M (x_ini (x_nP p) (x_nR r)))) (h : x_bld m0 M 9 m) : am_W sc 65 81 [.ref M, .int p, .int r, v] [] m Q := by
  refine am_aload_n iX7_init_81 rfl rfl ?_
  refine am_sipush (i := 240) (v := 240) rfl iX7_init_82 ?_
  refine am_newaI (N := 240) iX7_init_85 wd_81 (by decide) (by decide) (by decide) ((h.room (len := 240) (by omega) hn hr hu rfl).1) ((h.room (len := 240) (by omega) hn hr hu rfl).2) ?_
  refine am_putR iX7_init_87 fX7_init_37 (by decide +kernel) ((am_new_Ko (by have := h.1; omega)).trans h.2.2.1) ?_
  replace h := h.step (kd := 11) (len := 240) (j := 13) rfl rfl rfl (x_of_u 9 (by omega))
  generalize am_setR (am_new m 11 240 240) M 13 (am_n m + 1) = m at h ⊢
  refine am_aload_n iX7_init_90 rfl rfl ?_
  refine am_sipush (i := 240) (v := 240) rfl iX7_init_91 ?_
  refine am_newaI (N := 240) iX7_init_94 wd_81 (by decide) (by decide) (by decide) ((h.room (len := 240) (by omega) hn hr hu rfl).1) ((h.room (len := 240) (by omega) hn hr hu rfl).2) ?_
  refine am_putR iX7_init_96 fX7_init_40 (by decide +kernel) ((am_new_Ko (by have := h.1; omega)).trans h.2.2.1) ?_
  replace h := h.step (kd := 11) (len := 240) (j := 14) rfl rfl rfl (x_of_u 10 (by omega))
  generalize am_setR (am_new m 11 240 240) M 14 (am_n m + 1) = m at h ⊢
  refine am_aload_n iX7_init_99 rfl rfl ?_
  refine am_sipush (i := 2400) (v := 2400) rfl iX7_init_100 ?_
  refine am_newaI (N := 2400) iX7_init_103 wd_81 (by decide) (by decide) (by decide) ((h.room (len := 2400) (by omega) hn hr hu rfl).1) ((h.room (len := 2400) (by omega) hn hr hu rfl).2) ?_
  refine am_putR iX7_init_105 fX7_init_43 (by decide +kernel) ((am_new_Ko (by have := h.1; omega)).trans h.2.2.1) ?_
  replace h := h.step (kd := 11) (len := 2400) (j := 15) rfl rfl rfl (x_of_u 11 (by omega))
  generalize am_setR (am_new m 11 2400 2400) M 15 (am_n m + 1) = m at h ⊢
  refine am_aload_n iX7_init_108 rfl rfl ?_
  refine am_bipush (i := 80) (v := 80) rfl iX7_init_109 ?_
  refine am_newaJ (N := 80) iX7_init_111 wd_82 (by decide) (by decide) (by decide) ((h.room (len := 80) (by omega) hn hr hu rfl).1) ((h.room (len := 80) (by omega) hn hr hu rfl).2) ?_
  refine am_putR iX7_init_113 fX7_init_46 (by decide +kernel) ((am_new_Ko (by have := h.1; omega)).trans h.2.2.1) ?_
  replace h := h.step (kd := 12) (len := 80) (j := 16) rfl rfl rfl (x_of_u 12 (by omega))
  generalize am_setR (am_new m 12 80 80) M 16 (am_n m + 1) = m at h ⊢
  refine am_aload_n iX7_init_116 rfl rfl ?_
  refine am_bipush (i := 80) (v := 80) rfl iX7_init_117 ?_
  refine am_newaI (N := 80) iX7_init_119 wd_81 (by decide) (by decide) (by decide) ((h.room (len := 80) (by omega) hn hr hu rfl).1) ((h.room (len := 80) (by omega) hn hr hu rfl).2) ?_
  refine am_putR iX7_init_121 fX7_init_50 (by decide +kernel) ((am_new_Ko (by have := h.1; omega)).trans h.2.2.1) ?_
  replace h := h.step (kd := 11) (len := 80) (j := 17) rfl rfl rfl (x_of_u 13 (by omega))
  generalize am_setR (am_new m 11 80 80) M 17 (am_n m + 1) = m at h ⊢
  refine am_aload_n iX7_init_124 rfl rfl ?_
  refine am_bipush (i := 24) (v := 24) rfl iX7_init_125 ?_
  refine am_newaI (N := 24) iX7_init_127 wd_81 (by decide) (by decide) (by decide) ((h.room (len := 24) (by omega) hn hr hu rfl).1) ((h.room (len := 24) (by omega) hn hr hu rfl).2) ?_
  refine am_putR iX7_init_129 fX7_init_53 (by decide +kernel) ((am_new_Ko (by have := h.1; omega)).trans h.2.2.1) ?_
  replace h := h.step (kd := 11) (len := 24) (j := 18) rfl rfl rfl (x_of_u 14 (by omega))
  generalize am_setR (am_new m 11 24 24) M 18 (am_n m + 1) = m at h ⊢
  refine am_aload_n iX7_init_132 rfl rfl ?_
  refine am_iconst (i := 4) (v := 4) rfl iX7_init_133 ?_
  refine am_newaI (N := 4) iX7_init_134 wd_81 (by decide) (by decide) (by decide) ((h.room (len := 4) (by omega) hn hr hu rfl).1) ((h.room (len := 4) (by omega) hn hr hu rfl).2) ?_
  refine am_putR iX7_init_136 fX7_init_56 (by decide +kernel) ((am_new_Ko (by have := h.1; omega)).trans h.2.2.1) ?_
  replace h := h.step (kd := 11) (len := 4) (j := 19) rfl rfl rfl (x_of_u 15 (by omega))
  generalize am_setR (am_new m 11 4 4) M 19 (am_n m + 1) = m at h ⊢
  refine am_aload_n iX7_init_139 rfl rfl ?_
  refine am_iconst (i := 4) (v := 4) rfl iX7_init_140 ?_
  refine am_newaI (N := 4) iX7_init_141 wd_81 (by decide) (by decide) (by decide) ((h.room (len := 4) (by omega) hn hr hu rfl).1) ((h.room (len := 4) (by omega) hn hr hu rfl).2) ?_
  refine am_putR iX7_init_143 fX7_init_59 (by decide +kernel) ((am_new_Ko (by have := h.1; omega)).trans h.2.2.1) ?_
  replace h := h.step (kd := 11) (len := 4) (j := 20) rfl rfl rfl (x_of_u 16 (by omega))
  generalize am_setR (am_new m 11 4 4) M 20 (am_n m + 1) = m at h ⊢
  refine am_aload_n iX7_init_146 rfl rfl ?_
  refine am_iconst (i := 4) (v := 4) rfl iX7_init_147 ?_
  refine am_newaZ (N := 4) iX7_init_148 wd_791 (by decide) (by decide) (by decide) ((h.room (len := 4) (by omega) hn hr hu rfl).1) ((h.room (len := 4) (by omega) hn hr hu rfl).2) ?_
  refine am_putR iX7_init_150 fX7_init_62 (by decide +kernel) ((am_new_Ko (by have := h.1; omega)).trans h.2.2.1) ?_
  replace h := h.step (kd := 13) (len := 4) (j := 21) rfl rfl rfl (x_of_u 17 (by omega))
  generalize am_setR (am_new m 13 4 4) M 21 (am_n m + 1) = m at h ⊢
  exact x_init_a2 hn hr hu hQ h
theorem x_init_a0 {p r : Int32} {v : Value} {Q : am_Out → am_Mem → Prop} (hn : am_n m0 = M) (hr : am_n m0 + 34 ≤ am_CM) (hu : am_u m0 + 22000 ≤ am_SM) (hQ : ∀ m, x_bld m0 M 34 m → Q (.inl none) (xm m M (x_ini (x_nP p) (x_nR r)))) (h : x_bld m0 M 0 m) : am_W sc 65 4 [.ref M, .int p, .int r, v] [] m Q := by
  refine am_aload_n iX7_init_4 rfl rfl ?_
  refine am_iconst (i := 3) (v := 3) rfl iX7_init_5 ?_
  refine am_newaI (N := 3) iX7_init_6 wd_81 (by decide) (by decide) (by decide) ((h.room (len := 3) (by omega) hn hr hu rfl).1) ((h.room (len := 3) (by omega) hn hr hu rfl).2) ?_
  refine am_putR iX7_init_8 fX7_init_7 (by decide +kernel) ((am_new_Ko (by have := h.1; omega)).trans h.2.2.1) ?_
  replace h := h.step (kd := 11) (len := 3) (j := 4) rfl rfl rfl (x_of_u 0 (by omega))
  generalize am_setR (am_new m 11 3 3) M 4 (am_n m + 1) = m at h ⊢
  refine am_aload_n iX7_init_11 rfl rfl ?_
  refine am_iconst (i := 3) (v := 3) rfl iX7_init_12 ?_
  refine am_newaI (N := 3) iX7_init_13 wd_81 (by decide) (by decide) (by decide) ((h.room (len := 3) (by omega) hn hr hu rfl).1) ((h.room (len := 3) (by omega) hn hr hu rfl).2) ?_
  refine am_putR iX7_init_15 fX7_init_13 (by decide +kernel) ((am_new_Ko (by have := h.1; omega)).trans h.2.2.1) ?_
  replace h := h.step (kd := 11) (len := 3) (j := 5) rfl rfl rfl (x_of_u 1 (by omega))
  generalize am_setR (am_new m 11 3 3) M 5 (am_n m + 1) = m at h ⊢
  refine am_aload_n iX7_init_18 rfl rfl ?_
  refine am_sipush (i := 1203) (v := 1203) rfl iX7_init_19 ?_
  refine am_newaI (N := 1203) iX7_init_22 wd_81 (by decide) (by decide) (by decide) ((h.room (len := 1203) (by omega) hn hr hu rfl).1) ((h.room (len := 1203) (by omega) hn hr hu rfl).2) ?_
  refine am_putR iX7_init_24 fX7_init_16 (by decide +kernel) ((am_new_Ko (by have := h.1; omega)).trans h.2.2.1) ?_
  replace h := h.step (kd := 11) (len := 1203) (j := 6) rfl rfl rfl (x_of_u 2 (by omega))
  generalize am_setR (am_new m 11 1203 1203) M 6 (am_n m + 1) = m at h ⊢
  refine am_aload_n iX7_init_27 rfl rfl ?_
  refine am_sipush (i := 1203) (v := 1203) rfl iX7_init_28 ?_
  refine am_newaI (N := 1203) iX7_init_31 wd_81 (by decide) (by decide) (by decide) ((h.room (len := 1203) (by omega) hn hr hu rfl).1) ((h.room (len := 1203) (by omega) hn hr hu rfl).2) ?_
  refine am_putR iX7_init_33 fX7_init_19 (by decide +kernel) ((am_new_Ko (by have := h.1; omega)).trans h.2.2.1) ?_
  replace h := h.step (kd := 11) (len := 1203) (j := 7) rfl rfl rfl (x_of_u 3 (by omega))
  generalize am_setR (am_new m 11 1203 1203) M 7 (am_n m + 1) = m at h ⊢
  refine am_aload_n iX7_init_36 rfl rfl ?_
  refine am_sipush (i := 1203) (v := 1203) rfl iX7_init_37 ?_
  refine am_newaI (N := 1203) iX7_init_40 wd_81 (by decide) (by decide) (by decide) ((h.room (len := 1203) (by omega) hn hr hu rfl).1) ((h.room (len := 1203) (by omega) hn hr hu rfl).2) ?_
  refine am_putR iX7_init_42 fX7_init_22 (by decide +kernel) ((am_new_Ko (by have := h.1; omega)).trans h.2.2.1) ?_
  replace h := h.step (kd := 11) (len := 1203) (j := 8) rfl rfl rfl (x_of_u 4 (by omega))
  generalize am_setR (am_new m 11 1203 1203) M 8 (am_n m + 1) = m at h ⊢
  refine am_aload_n iX7_init_45 rfl rfl ?_
  refine am_sipush (i := 1203) (v := 1203) rfl iX7_init_46 ?_
  refine am_newaI (N := 1203) iX7_init_49 wd_81 (by decide) (by decide) (by decide) ((h.room (len := 1203) (by omega) hn hr hu rfl).1) ((h.room (len := 1203) (by omega) hn hr hu rfl).2) ?_
  refine am_putR iX7_init_51 fX7_init_25 (by decide +kernel) ((am_new_Ko (by have := h.1; omega)).trans h.2.2.1) ?_
  replace h := h.step (kd := 11) (len := 1203) (j := 9) rfl rfl rfl (x_of_u 5 (by omega))
  generalize am_setR (am_new m 11 1203 1203) M 9 (am_n m + 1) = m at h ⊢
  refine am_aload_n iX7_init_54 rfl rfl ?_
  refine am_sipush (i := 3609) (v := 3609) rfl iX7_init_55 ?_
  refine am_newaI (N := 3609) iX7_init_58 wd_81 (by decide) (by decide) (by decide) ((h.room (len := 3609) (by omega) hn hr hu rfl).1) ((h.room (len := 3609) (by omega) hn hr hu rfl).2) ?_
  refine am_putR iX7_init_60 fX7_init_28 (by decide +kernel) ((am_new_Ko (by have := h.1; omega)).trans h.2.2.1) ?_
  replace h := h.step (kd := 11) (len := 3609) (j := 10) rfl rfl rfl (x_of_u 6 (by omega))
  generalize am_setR (am_new m 11 3609 3609) M 10 (am_n m + 1) = m at h ⊢
  refine am_aload_n iX7_init_63 rfl rfl ?_
  refine am_sipush (i := 240) (v := 240) rfl iX7_init_64 ?_
  refine am_newaI (N := 240) iX7_init_67 wd_81 (by decide) (by decide) (by decide) ((h.room (len := 240) (by omega) hn hr hu rfl).1) ((h.room (len := 240) (by omega) hn hr hu rfl).2) ?_
  refine am_putR iX7_init_69 fX7_init_31 (by decide +kernel) ((am_new_Ko (by have := h.1; omega)).trans h.2.2.1) ?_
  replace h := h.step (kd := 11) (len := 240) (j := 11) rfl rfl rfl (x_of_u 7 (by omega))
  generalize am_setR (am_new m 11 240 240) M 11 (am_n m + 1) = m at h ⊢
  refine am_aload_n iX7_init_72 rfl rfl ?_
  refine am_sipush (i := 240) (v := 240) rfl iX7_init_73 ?_
  refine am_newaI (N := 240) iX7_init_76 wd_81 (by decide) (by decide) (by decide) ((h.room (len := 240) (by omega) hn hr hu rfl).1) ((h.room (len := 240) (by omega) hn hr hu rfl).2) ?_
  refine am_putR iX7_init_78 fX7_init_34 (by decide +kernel) ((am_new_Ko (by have := h.1; omega)).trans h.2.2.1) ?_
  replace h := h.step (kd := 11) (len := 240) (j := 12) rfl rfl rfl (x_of_u 8 (by omega))
  generalize am_setR (am_new m 11 240 240) M 12 (am_n m + 1) = m at h ⊢
  exact x_init_a1 hn hr hu hQ h
theorem x_init_ok {p r : Int32} (hK : am_K m0 M = 7) (hM0 : ¬ M = 0) (h0 : ∀ j, am_I m0 M j = 0 ∧ am_J m0 M j = 0) (hn : am_n m0 = M) (hr : am_n m0 + 34 ≤ am_CM) (hu : am_u m0 + 22000 ≤ am_SM) :
    am_W sc 65 0 [.ref M, .int p, .int r, .retAddr 1] [] m0 (am_RE none (fun m' => ∃ m, x_bld m0 M 34 m ∧ m' = xm m M (x_ini (x_nP p) (x_nR r)))) := by
  refine am_aload_n iX7_init_0 rfl rfl ?_
  refine am_oinit iX7_init_1 wd_672 wd_23 g_oi2 (Nat.le_of_ble_eq_true rfl) (Nat.le_of_ble_eq_true rfl) (hM0) ?_
  refine x_init_a0 hn hr hu (fun m h => ⟨rfl, m, h, rfl⟩) ⟨hn, rfl, hK, fun o h1 h2 => by omega, fun j hj h1 h2 => by omega, fun o j ho => ?_, fun a ha => ⟨rfl, rfl, fun j => ⟨rfl, rfl, rfl⟩⟩⟩
  have e : o = 0 := by omega
  subst e
  exact h0 j
end
