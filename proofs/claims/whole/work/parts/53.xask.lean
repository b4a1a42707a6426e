/-! the reference: ask -/
section
variable {sc : Nat × (Nat → Int32)} {m : am_Mem} {M : Nat} {X Y : ms_X} {P R N : Nat}
def x_nqN (X : ms_X) (k : Nat) (t : Int64) : Nat → ms_X
  | 0 => X
  | q + 1 => xU (x_nqN X k t q) 25 (3 * k + q) (x_pos t (nI q))
theorem x_nqN_o (X : ms_X) (k : Nat) (t : Int64) {a j : Nat} (h : a ≠ 25) : ∀ q, (x_nqN X k t q).1 a j = X.1 a j
  | 0 => rfl
  | q + 1 => (xU_o _ _ h).trans (x_nqN_o X k t h q)
def x_ask1 (X : ms_X) (k : Nat) (b p kd a : Int32) : ms_X :=
  let A := xU (xU X 26 k b) 27 k p
  let B := xU (xU (xU A 28 k (A.1 0 3)) 29 k kd) 30 k a
  xU (xV (xV (xU B 31 k (-1)) 32 k 0) 33 k 0) 34 k (-1)
theorem x_ask1_o (X : ms_X) (k : Nat) (b p kd a : Int32) {o j : Nat} (h1 : o ≠ 26) (h2 : o ≠ 27) (h3 : o ≠ 28) (h4 : o ≠ 29) (h5 : o ≠ 30) (h6 : o ≠ 31) (h7 : o ≠ 34) : (x_ask1 X k b p kd a).1 o j = X.1 o j := by
  unfold x_ask1
  rw [xU_o _ _ h7, xV_I, xV_I, xU_o _ _ h6, xU_o _ _ h5, xU_o _ _ h4, xU_o _ _ h3, xU_o _ _ h2, xU_o _ _ h1]
def x_ask0 (X : ms_X) (k s : Nat) (t : Int64) (b p kd a : Int32) : ms_X := x_ask1 (x_nqN (xU X 24 k (nI s)) k t 3) k b p kd a
theorem x_ask0_o (X : ms_X) (k s : Nat) (t : Int64) (b p kd a : Int32) {o j : Nat} (h0 : o ≠ 24) (h00 : o ≠ 25) (h1 : o ≠ 26) (h2 : o ≠ 27) (h3 : o ≠ 28) (h4 : o ≠ 29) (h5 : o ≠ 30) (h6 : o ≠ 31) (h7 : o ≠ 34) : (x_ask0 X k s t b p kd a).1 o j = X.1 o j := by
  unfold x_ask0
  rw [x_ask1_o _ _ _ _ _ _ h1 h2 h3 h4 h5 h6 h7, x_nqN_o _ _ _ h00, xU_o _ _ h0]
theorem x_ask0_24 (X : ms_X) (k s : Nat) (t : Int64) (b p kd a : Int32) : (x_ask0 X k s t b p kd a).1 24 k = nI s := by
  unfold x_ask0
  rw [x_ask1_o _ _ _ _ _ _ (by decide) (by decide) (by decide) (by decide) (by decide) (by decide) (by decide), x_nqN_o _ _ _ (by decide), xU_s]
theorem x_ask0_29 (X : ms_X) (k s : Nat) (t : Int64) (b p kd a : Int32) : (x_ask0 X k s t b p kd a).1 29 k = kd := by
  unfold x_ask0 x_ask1
  rw [xU_o _ _ (by decide), xV_I, xV_I, xU_o _ _ (by decide), xU_o _ _ (by decide), xU_s]
theorem x_ask0_30 (X : ms_X) (k s : Nat) (t : Int64) (b p kd a : Int32) : (x_ask0 X k s t b p kd a).1 30 k = a := by
  unfold x_ask0 x_ask1
  rw [xU_o _ _ (by decide), xV_I, xV_I, xU_o _ _ (by decide), xU_s]
theorem x_ask0_j (X : ms_X) (k s : Nat) (t : Int64) (b p kd a : Int32) {o j : Nat} (hj : j ≠ k) (ho : o ≠ 25) : (x_ask0 X k s t b p kd a).1 o j = X.1 o j := by
  unfold x_ask0 x_ask1
  rw [xU_j _ _ hj, xV_I, xV_I, xU_j _ _ hj, xU_j _ _ hj, xU_j _ _ hj, xU_j _ _ hj, xU_j _ _ hj, xU_j _ _ hj, x_nqN_o _ _ _ ho, xU_j _ _ hj]
def x_fs (X : ms_X) (P R h k : Nat) : Nat → Nat → Nat
  | 0, r => r
  | d + 1, r => if x_may X P ((h + r) % R) k = true then r else x_fs X P R h k d (r + 1)
theorem x_fs_le (X : ms_X) (P R h k : Nat) : ∀ d r, x_fs X P R h k d r ≤ r + d
  | 0, r => Nat.le_refl _
  | d + 1, r => by
    unfold x_fs
    split
    · omega
    · have := x_fs_le X P R h k d (r + 1); omega
def x_ask4 (B : ms_X) (P R N s : Nat) (p : Int32) (r : Nat) : ms_X := if r < R then x_ans B P ((nt (B.1 20 s) + r) % R) N else if p = 0 then x_fail B N else B
def x_ask3 (A : ms_X) (P R N s : Nat) (p : Int32) (r : Nat) : Int32 × ms_X := if r = R ∧ 0 < p ∧ x_wtN A 0 N = 40 then (0, x_th A 3) else (nI N, x_ask4 (xU (xU (x_th A 0) 0 26 (nI (N + 1))) 23 N 0) P R N s p r)
def x_ask (X : ms_X) (P R N : Nat) (s : Int32) (t : Int64) (b p kd a : Int32) : Int32 × ms_X :=
  if (x_rg s 0 7 && x_isQ P kd a) = false then (0, x_th X 1)
  else if (x_isTok X P t && (x_rg b (-1) 400 && x_rg p 0 1000)) = false then (0, x_th X 2)
  else if N = 500 then (0, x_th X 3)
  else x_ask3 (x_ask0 (x_th X 0) N (nt s) t b p kd a) P R N (nt s) p (x_fs (x_ask0 (x_th X 0) N (nt s) t b p kd a) P R (nt (X.1 20 (nt s))) N R 0)
set_option maxHeartbeats 4000000 in
theorem x_ask_end (hM : LM m M) {A : ms_X} (hP : x_PR A P R) (hN : x_Rd A N) (hN5 : N < 500) {s r h : Nat} (hs : s < 8) (hr : r ≤ R) (hh : A.1 20 s = nI h) (hh4 : h < R) (h24 : A.1 24 N = nI s) (hq : x_qI (A.1 29 N) (A.1 30 N)) {t : Int64} {b p kd a : Int32} :
    am_W sc 101 269 [.ref M, .int (nI s), .long t, .retAddr 1, .int b, .int p, .int kd, .int a, .int 1, .int (nI N), .int (nI r)] [] (xm m M A) (am_R1 (some (.int (x_ask3 A P R N s p r).1)) (xm m M (x_ask3 A P R N s p r).2)) := by
  have hR4 := hP.2.2.2.2.2
  have good : ¬ (r = R ∧ 0 < p ∧ x_wtN A 0 N = 40) → am_W sc 101 297 [.ref M, .int (nI s), .long t, .retAddr 1, .int b, .int p, .int kd, .int a, .int 1, .int (nI N), .int (nI r)] [.ref M] (xm m M A) (am_R1 (some (.int (x_ask3 A P R N s p r).1)) (xm m M (x_ask3 A P R N s p r).2)) := by
    intro hg
    unfold x_ask3
    rw [if_neg hg]
    refine am_iconst (i := 0) (v := 0) rfl iX7_ask_297 ?_
    refine x_putI hM iX7_ask_298 fX7_ask_121 rfl rfl ?_
    refine am_aload_n iX7_ask_301 rfl rfl ?_
    refine x_getI hM iX7_ask_302 fX7_ask_121 ?_
    rw [xU_s]
    refine am_if_le iX7_ask_305 (fun _ => ?_) (fun hc => absurd (by decide) hc)
    refine am_aload_n iX7_ask_310 rfl rfl ?_
    refine am_dup iX7_ask_311 rfl ?_
    refine x_getI hM iX7_ask_312 fX7_ask_204 ?_
    rw [show (xU A 0 2 0).1 0 26 = nI N from hN.1]
    refine am_iconst (i := 1) (v := 1) rfl iX7_ask_315 ?_
    refine am_iadd iX7_ask_316 ?_
    rw [nI_1]
    refine x_putI hM iX7_ask_317 fX7_ask_204 rfl rfl ?_
    refine am_aload_n iX7_ask_320 rfl rfl ?_
    refine x_getR 23 hM iX7_ask_321 fX7_ask_78 rfl rfl rfl ?_
    refine am_iload iX7_ask_324 rfl ?_
    refine am_iconst (i := 0) (v := 0) rfl iX7_ask_326 ?_
    refine x_iast (N) hM rfl iX7_ask_327 (by first | rfl | simp only [nI_add, pk_mul, nI_1, nL0, nL1, nL2, nL3, nL4, nL10, nL30, nL300, nL401]) (hN5) ?_
    show am_W _ _ _ _ _ (xm m M (xU (xU (x_th A 0) 0 26 (nI (N + 1))) 23 N 0)) _
    have q1 : (xU (xU (x_th A 0) 0 26 (nI (N + 1))) 23 N 0).1 0 1 = nI R := hP.2.1
    have q0 : x_PR (xU (xU (x_th A 0) 0 26 (nI (N + 1))) 23 N 0) P R := hP
    have q2 : (xU (xU (x_th A 0) 0 26 (nI (N + 1))) 23 N 0).1 20 s = nI h := hh
    have q3 : (xU (xU (x_th A 0) 0 26 (nI (N + 1))) 23 N 0).1 24 N = nI s := h24
    have q4 : x_qI ((xU (xU (x_th A 0) 0 26 (nI (N + 1))) 23 N 0).1 29 N) ((xU (xU (x_th A 0) 0 26 (nI (N + 1))) 23 N 0).1 30 N) := hq
    generalize xU (xU (x_th A 0) 0 26 (nI (N + 1))) 23 N 0 = B at q0 q1 q2 q3 q4 ⊢
    refine am_iload iX7_ask_328 rfl ?_
    refine am_aload_n iX7_ask_330 rfl rfl ?_
    refine x_getI hM iX7_ask_331 fX7_ask_118 ?_
    rw [q1]
    unfold x_ask4
    refine am_icmp_ge iX7_ask_334 (fun h1 => ?_) (fun h1 => ?_)
    · rw [if_neg (Nat.not_lt.mpr ((nI_leI (by omega) (by omega)).mp h1))]
      refine am_iload iX7_ask_360 rfl ?_
      refine am_if_ne iX7_ask_362 (fun h2 => ?_) (fun h2 => ?_)
      · rw [if_neg h2]
        refine am_iload iX7_ask_371 rfl ?_
        exact am_iret iX7_ask_373 rfl (⟨rfl, rfl⟩)
      · rw [if_pos h2]
        refine am_aload_n iX7_ask_365 rfl rfl ?_
        refine am_iload iX7_ask_366 rfl ?_
        refine am_cV1v iX7_ask_368 cX7_ask_207 mX7_fail hM.1 rfl rfl rfl (x_fail_ok hM hN5) ?_
        refine am_iload iX7_ask_371 rfl ?_
        exact am_iret iX7_ask_373 rfl (⟨rfl, rfl⟩)
    · have h1' : r < R := Nat.lt_of_not_le (fun z => h1 ((nI_leI (by omega) (by omega)).mpr z))
      rw [if_pos h1']
      refine am_aload_n iX7_ask_337 rfl rfl ?_
      refine am_aload_n iX7_ask_338 rfl rfl ?_
      refine x_getR 20 hM iX7_ask_339 fX7_ask_69 rfl rfl rfl ?_
      refine am_iload_n iX7_ask_342 rfl rfl ?_
      refine x_iald (s) hM rfl iX7_ask_343 (by first | rfl | simp only [nI_add, pk_mul, nI_1, nL0, nL1, nL2, nL3, nL4, nL10, nL30, nL300, nL401]) (hs) ?_
      refine am_iload iX7_ask_344 rfl ?_
      refine am_iadd iX7_ask_346 ?_
      refine am_aload_n iX7_ask_347 rfl rfl ?_
      refine x_getI hM iX7_ask_348 fX7_ask_118 ?_
      rw [q2, q1, nI_add, nt_nI (by omega)]
      refine am_irem (fun q => absurd ((nI_eq (a := R) (b := 0) (by omega) (by omega)).mp q) (by omega)) iX7_ask_351 ?_
      rw [pk_rem (by omega) (by omega) (by omega)]
      refine am_iload iX7_ask_352 rfl ?_
      refine am_cV2v iX7_ask_354 cX7_ask_235 mX7_answer hM.1 rfl rfl rfl (x_answer_ok hM q0 (show (h + r) % R < 4 from Nat.lt_of_lt_of_le (Nat.mod_lt _ (by omega)) hR4) hN5 (by rw [q3]; exact x_ix_nI hs (by omega)) q4) ?_
      refine am_goto iX7_ask_357 ?_
      refine am_iload iX7_ask_371 rfl ?_
      exact am_iret iX7_ask_373 rfl (⟨rfl, rfl⟩)
  refine am_aload_n iX7_ask_269 rfl rfl ?_
  refine am_iload iX7_ask_270 rfl ?_
  refine am_aload_n iX7_ask_272 rfl rfl ?_
  refine x_getI hM iX7_ask_273 fX7_ask_118 ?_
  rw [hP.2.1]
  refine am_icmp_ne iX7_ask_276 (fun h1 => ?_) (fun h1 => ?_)
  · exact good (fun z => h1 (congrArg nI z.1))
  · have h1' : r = R := (nI_eq (by omega) (by omega)).mp h1
    refine am_iload iX7_ask_279 rfl ?_
    refine am_if_le iX7_ask_281 (fun h2 => ?_) (fun h2 => ?_)
    · exact good (fun z => absurd z.2.1 (Int32.not_lt.mpr h2))
    · refine am_aload_n iX7_ask_284 rfl rfl ?_
      refine am_cV0r iX7_ask_285 cX7_ask_246 mX7_waiting hM.1 rfl rfl rfl (x_waiting_ok hM hN) ?_
      have hw := x_wtN_le A 0 N
      refine am_bipush (i := 40) (v := 40) rfl iX7_ask_288 ?_
      refine am_icmp_ne iX7_ask_290 (fun h3 => ?_) (fun h3 => ?_)
      · exact good (fun z => h3 (congrArg nI z.2.2))
      · have h3' : x_wtN A 0 N = 40 := (nI_eq (a := x_wtN A 0 N) (b := 40) (by omega) (by omega)).mp h3
        unfold x_ask3
        rw [if_pos ⟨h1', Int32.not_le.mp h2, h3'⟩]
        refine am_iconst (i := 3) (v := 3) rfl iX7_ask_293 ?_
        refine am_goto iX7_ask_294 ?_
        refine x_putI hM iX7_ask_298 fX7_ask_121 rfl rfl ?_
        refine am_aload_n iX7_ask_301 rfl rfl ?_
        refine x_getI hM iX7_ask_302 fX7_ask_121 ?_
        rw [xU_s]
        refine am_if_le iX7_ask_305 (fun hc => absurd hc (by decide)) (fun _ => ?_)
        refine am_iconst (i := 0) (v := 0) rfl iX7_ask_308 ?_
        exact am_iret iX7_ask_309 rfl (⟨rfl, rfl⟩)
set_option maxHeartbeats 1000000 in
theorem x_ask_find (hM : LM m M) {A : ms_X} (hP : x_PR A P R) (hN : x_Rd A N) (hN5 : N < 500) {s h : Nat} (hs : s < 8) (hh : A.1 20 s = nI h) (hh4 : h < R) (h24 : A.1 24 N = nI s) (hq : x_qI (A.1 29 N) (A.1 30 N)) {t : Int64} {b p kd a : Int32} : ∀ d r : Nat, r + d = R →
    am_W sc 101 231 [.ref M, .int (nI s), .long t, .retAddr 1, .int b, .int p, .int kd, .int a, .int 1, .int (nI N), .int (nI r)] [] (xm m M A) (am_R1 (some (.int (x_ask3 A P R N s p (x_fs A P R h N d r)).1)) (xm m M (x_ask3 A P R N s p (x_fs A P R h N d r)).2)) := by
  have hR4 := hP.2.2.2.2.2
  intro d
  induction d with
  | zero =>
    intro r hr
    refine am_iload iX7_ask_231 rfl ?_
    refine am_aload_n iX7_ask_233 rfl rfl ?_
    refine x_getI hM iX7_ask_234 fX7_ask_118 ?_
    rw [hP.2.1]
    refine am_icmp_ge iX7_ask_237 (fun _ => ?_) (fun hc => absurd (nI_le (by omega) (by omega)) hc)
    exact x_ask_end hM hP hN hN5 hs (by omega) hh hh4 h24 hq
  | succ d ih =>
    intro r hr
    have e1 : x_fs A P R h N (d + 1) r = if x_may A P ((h + r) % R) N = true then r else x_fs A P R h N d (r + 1) := rfl
    refine am_iload iX7_ask_231 rfl ?_
    refine am_aload_n iX7_ask_233 rfl rfl ?_
    refine x_getI hM iX7_ask_234 fX7_ask_118 ?_
    rw [hP.2.1]
    refine am_icmp_ge iX7_ask_237 (fun hc => absurd hc (fun z => absurd ((nI_leI (by omega) (by omega)).mp z) (by omega))) (fun _ => ?_)
    refine am_aload_n iX7_ask_240 rfl rfl ?_
    refine am_aload_n iX7_ask_241 rfl rfl ?_
    refine x_getR 20 hM iX7_ask_242 fX7_ask_69 rfl rfl rfl ?_
    refine am_iload_n iX7_ask_245 rfl rfl ?_
    refine x_iald (s) hM rfl iX7_ask_246 (by first | rfl | simp only [nI_add, pk_mul, nI_1, nL0, nL1, nL2, nL3, nL4, nL10, nL30, nL300, nL401]) (hs) ?_
    refine am_iload iX7_ask_247 rfl ?_
    refine am_iadd iX7_ask_249 ?_
    refine am_aload_n iX7_ask_250 rfl rfl ?_
    refine x_getI hM iX7_ask_251 fX7_ask_118 ?_
    rw [hh, hP.2.1, nI_add]
    refine am_irem (fun q => absurd ((nI_eq (a := R) (b := 0) (by omega) (by omega)).mp q) (by omega)) iX7_ask_254 ?_
    rw [pk_rem (by omega) (by omega) (by omega)]
    refine am_iload iX7_ask_255 rfl ?_
    refine am_cV2r iX7_ask_257 cX7_ask_231 mX7_may hM.1 rfl rfl rfl (x_may_ok hM hP (show (h + r) % R < 4 from Nat.lt_of_lt_of_le (Nat.mod_lt _ (by omega)) hR4) hN5 (by rw [h24]; exact x_ix_nI hs (by omega))) ?_
    cases c1 : x_may A P ((h + r) % R) N
    · refine am_if_ne iX7_ask_260 (fun hc => absurd (rfl) hc) (fun _ => ?_)
      rw [c1, if_neg (by decide)] at e1
      refine am_iinc_10 1 iX7_ask_263 rfl rfl rfl ?_
      refine am_goto iX7_ask_266 ?_
      rw [nI_1, e1]
      exact ih (r + 1) (by omega)
    · refine am_if_ne iX7_ask_260 (fun _ => ?_) (fun hc => absurd hc (by decide))
      rw [c1, if_pos rfl] at e1
      rw [e1]
      exact x_ask_end hM hP hN hN5 hs (by omega) hh hh4 h24 hq
theorem x_Rd.ask0 (h : x_Rd X N) (s : Nat) (t : Int64) (b p kd a : Int32) : x_Rd (x_ask0 X N s t b p kd a) N := by
  refine ⟨(x_ask0_o _ _ _ _ _ _ _ _ (by decide) (by decide) (by decide) (by decide) (by decide) (by decide) (by decide) (by decide) (by decide)).trans h.1, h.2.1, fun k hk => ?_⟩
  rw [x_ask0_j _ _ _ _ _ _ _ _ (by omega) (by decide), x_ask0_j _ _ _ _ _ _ _ _ (by omega) (by decide), x_ask0_j _ _ _ _ _ _ _ _ (by omega) (by decide)]
  exact h.2.2 k hk
set_option maxHeartbeats 1000000 in
theorem x_ask_fill (hM : LM m M) (hP : x_PR X P R) (hN : x_Rd X N) (hN5 : N < 500) {s h : Nat} (hs : s < 8) (hh : X.1 20 s = nI h) (hh4 : h < R) {t : Int64} {b p kd a : Int32} (hq : x_qI kd a) :
    am_W sc 101 102 [.ref M, .int (nI s), .long t, .retAddr 1, .int b, .int p, .int kd, .int a, .int 1, .retAddr 1, .retAddr 1] [] (xm m M X) (am_R1 (some (.int (x_ask3 (x_ask0 X N s t b p kd a) P R N s p (x_fs (x_ask0 X N s t b p kd a) P R h N R 0)).1)) (xm m M (x_ask3 (x_ask0 X N s t b p kd a) P R N s p (x_fs (x_ask0 X N s t b p kd a) P R h N R 0)).2)) := by
  refine am_aload_n iX7_ask_102 rfl rfl ?_
  refine x_getI hM iX7_ask_103 fX7_ask_204 ?_
  rw [hN.1]
  have key : ∀ d q : Nat, q + d = 3 → am_W sc 101 119 [.ref M, .int (nI s), .long t, .retAddr 1, .int b, .int p, .int kd, .int a, .int 1, .int (nI N), .int (nI q)] [] (xm m M (x_nqN (xU X 24 N (nI s)) N t q)) (am_R1 (some (.int (x_ask3 (x_ask0 X N s t b p kd a) P R N s p (x_fs (x_ask0 X N s t b p kd a) P R h N R 0)).1)) (xm m M (x_ask3 (x_ask0 X N s t b p kd a) P R N s p (x_fs (x_ask0 X N s t b p kd a) P R h N R 0)).2)) := by
    intro d
    induction d with
    | zero =>
      intro q hq1
      have e9 : q = 3 := by omega
      subst e9
      refine am_iload iX7_ask_119 rfl ?_
      refine am_iconst (i := 3) (v := 3) rfl iX7_ask_121 ?_
      refine am_icmp_ge iX7_ask_122 (fun _ => ?_) (fun hc => absurd (by decide) hc)
      refine am_aload_n iX7_ask_149 rfl rfl ?_
      refine x_getR 26 hM iX7_ask_150 fX7_ask_87 rfl rfl rfl ?_
      refine am_iload iX7_ask_153 rfl ?_
      refine am_iload iX7_ask_155 rfl ?_
      refine x_iast (N) hM rfl iX7_ask_157 (by first | rfl | simp only [nI_add, pk_mul, nI_1, nL0, nL1, nL2, nL3, nL4, nL10, nL30, nL300, nL401]) (hN5) ?_
      refine am_aload_n iX7_ask_158 rfl rfl ?_
      refine x_getR 27 hM iX7_ask_159 fX7_ask_90 rfl rfl rfl ?_
      refine am_iload iX7_ask_162 rfl ?_
      refine am_iload iX7_ask_164 rfl ?_
      refine x_iast (N) hM rfl iX7_ask_166 (by first | rfl | simp only [nI_add, pk_mul, nI_1, nL0, nL1, nL2, nL3, nL4, nL10, nL30, nL300, nL401]) (hN5) ?_
      refine am_aload_n iX7_ask_167 rfl rfl ?_
      refine x_getR 28 hM iX7_ask_168 fX7_ask_93 rfl rfl rfl ?_
      refine am_iload iX7_ask_171 rfl ?_
      refine am_aload_n iX7_ask_173 rfl rfl ?_
      refine x_getI hM iX7_ask_174 fX7_ask_201 ?_
      refine x_iast (N) hM rfl iX7_ask_177 (by first | rfl | simp only [nI_add, pk_mul, nI_1, nL0, nL1, nL2, nL3, nL4, nL10, nL30, nL300, nL401]) (hN5) ?_
      refine am_aload_n iX7_ask_178 rfl rfl ?_
      refine x_getR 29 hM iX7_ask_179 fX7_ask_96 rfl rfl rfl ?_
      refine am_iload iX7_ask_182 rfl ?_
      refine am_iload iX7_ask_184 rfl ?_
      refine x_iast (N) hM rfl iX7_ask_186 (by first | rfl | simp only [nI_add, pk_mul, nI_1, nL0, nL1, nL2, nL3, nL4, nL10, nL30, nL300, nL401]) (hN5) ?_
      refine am_aload_n iX7_ask_187 rfl rfl ?_
      refine x_getR 30 hM iX7_ask_188 fX7_ask_99 rfl rfl rfl ?_
      refine am_iload iX7_ask_191 rfl ?_
      refine am_iload iX7_ask_193 rfl ?_
      refine x_iast (N) hM rfl iX7_ask_195 (by first | rfl | simp only [nI_add, pk_mul, nI_1, nL0, nL1, nL2, nL3, nL4, nL10, nL30, nL300, nL401]) (hN5) ?_
      refine am_aload_n iX7_ask_196 rfl rfl ?_
      refine x_getR 31 hM iX7_ask_197 fX7_ask_102 rfl rfl rfl ?_
      refine am_iload iX7_ask_200 rfl ?_
      refine am_iconst (i := -1) (v := -1) rfl iX7_ask_202 ?_
      refine x_iast (N) hM rfl iX7_ask_203 (by first | rfl | simp only [nI_add, pk_mul, nI_1, nL0, nL1, nL2, nL3, nL4, nL10, nL30, nL300, nL401]) (hN5) ?_
      refine am_aload_n iX7_ask_204 rfl rfl ?_
      refine x_getR 32 hM iX7_ask_205 fX7_ask_105 rfl rfl rfl ?_
      refine am_iload iX7_ask_208 rfl ?_
      refine am_lconst (i := 0) (v := 0) rfl iX7_ask_210 ?_
      refine x_last (N) hM rfl iX7_ask_211 (by first | rfl | simp only [nI_add, pk_mul, nI_1, nL0, nL1, nL2, nL3, nL4, nL10, nL30, nL300, nL401]) (hN5) ?_
      refine am_aload_n iX7_ask_212 rfl rfl ?_
      refine x_getR 33 hM iX7_ask_213 fX7_ask_108 rfl rfl rfl ?_
      refine am_iload iX7_ask_216 rfl ?_
      refine am_lconst (i := 0) (v := 0) rfl iX7_ask_218 ?_
      refine x_last (N) hM rfl iX7_ask_219 (by first | rfl | simp only [nI_add, pk_mul, nI_1, nL0, nL1, nL2, nL3, nL4, nL10, nL30, nL300, nL401]) (hN5) ?_
      refine am_aload_n iX7_ask_220 rfl rfl ?_
      refine x_getR 34 hM iX7_ask_221 fX7_ask_111 rfl rfl rfl ?_
      refine am_iload iX7_ask_224 rfl ?_
      refine am_iconst (i := -1) (v := -1) rfl iX7_ask_226 ?_
      refine x_iast (N) hM rfl iX7_ask_227 (by first | rfl | simp only [nI_add, pk_mul, nI_1, nL0, nL1, nL2, nL3, nL4, nL10, nL30, nL300, nL401]) (hN5) ?_
      refine am_iconst (i := 0) (v := 0) rfl iX7_ask_228 ?_
      refine am_istore_10 iX7_ask_229 rfl rfl ?_
      show am_W _ _ _ _ _ (xm m M (x_ask0 X N s t b p kd a)) _
      refine x_ask_find hM (hP.cg ?_ ?_) (hN.ask0 s t b p kd a) hN5 hs ?_ hh4 (x_ask0_24 _ _ _ _ _ _ _ _) ?_ R 0 (by omega)
      · exact x_ask0_o _ _ _ _ _ _ _ _ (by decide) (by decide) (by decide) (by decide) (by decide) (by decide) (by decide) (by decide) (by decide)
      · exact x_ask0_o _ _ _ _ _ _ _ _ (by decide) (by decide) (by decide) (by decide) (by decide) (by decide) (by decide) (by decide) (by decide)
      · exact (x_ask0_o _ _ _ _ _ _ _ _ (by decide) (by decide) (by decide) (by decide) (by decide) (by decide) (by decide) (by decide) (by decide)).trans hh
      · rw [x_ask0_29, x_ask0_30]
        exact hq
    | succ d ih =>
      intro q hq1
      have b3 : 3 * N + q < 1500 := by omega
      refine am_iload iX7_ask_119 rfl ?_
      refine am_iconst (i := 3) (v := 3) rfl iX7_ask_121 ?_
      refine am_icmp_ge iX7_ask_122 (fun hc => absurd hc (fun z => absurd ((nI_leI (b := q) (a := 3) (by omega) (by omega)).mp z) (by omega))) (fun _ => ?_)
      refine am_aload_n iX7_ask_125 rfl rfl ?_
      refine x_getR 25 hM iX7_ask_126 fX7_ask_84 rfl rfl rfl ?_
      refine am_iconst (i := 3) (v := 3) rfl iX7_ask_129 ?_
      refine am_iload iX7_ask_130 rfl ?_
      refine am_imul iX7_ask_132 ?_
      refine am_iload iX7_ask_133 rfl ?_
      refine am_iadd iX7_ask_135 ?_
      refine am_lload_n iX7_ask_136 rfl rfl ?_
      refine am_iload iX7_ask_137 rfl ?_
      refine am_cS2r iX7_ask_139 cX7_ask_142 mX7_position rfl rfl rfl (x_position _ _) ?_
      refine x_iast (3 * N + q) hM rfl iX7_ask_142 (by first | rfl | simp only [nI_add, pk_mul, nI_1, nL0, nL1, nL2, nL3, nL4, nL10, nL30, nL300, nL401]) (b3) ?_
      refine am_iinc_10 1 iX7_ask_143 rfl rfl rfl ?_
      refine am_goto iX7_ask_146 ?_
      rw [nI_1]
      exact ih (q + 1) (by omega)
  refine am_istore_9 iX7_ask_106 rfl rfl ?_
  refine am_aload_n iX7_ask_108 rfl rfl ?_
  refine x_getR 24 hM iX7_ask_109 fX7_ask_81 rfl rfl rfl ?_
  refine am_iload iX7_ask_112 rfl ?_
  refine am_iload_n iX7_ask_114 rfl rfl ?_
  refine x_iast (N) hM rfl iX7_ask_115 (by first | rfl | simp only [nI_add, pk_mul, nI_1, nL0, nL1, nL2, nL3, nL4, nL10, nL30, nL300, nL401]) (hN5) ?_
  refine am_iconst (i := 0) (v := 0) rfl iX7_ask_116 ?_
  refine am_istore_10 iX7_ask_117 rfl rfl ?_
  exact key 3 0 rfl
set_option maxHeartbeats 1000000 in
theorem x_ask_ok (hM : LM m M) (hW : x_Wf X P R N) (s : Int32) (t : Int64) (b p kd a : Int32) : am_W sc 101 0 [.ref M, .int s, .long t, .retAddr 1, .int b, .int p, .int kd, .int a, .retAddr 1, .retAddr 1, .retAddr 1] [] (xm m M X) (am_R1 (some (.int (x_ask X P R N s t b p kd a).1)) (xm m M (x_ask X P R N s t b p kd a).2)) := by
  have hP := hW.1
  have hN := hW.2.1
  have hN2 := hN.2.1
  have st2 : ∀ g : Bool, g = (x_isTok X P t && (x_rg b (-1) 400 && x_rg p 0 1000)) → am_W sc 101 41 [.ref M, .int s, .long t, .retAddr 1, .int b, .int p, .int kd, .int a, .retAddr 1, .retAddr 1, .retAddr 1] [.int (x_b g)] (xm m M X) (am_R1 (some (.int (x_ask X P R N s t b p kd a).1)) (xm m M (x_ask X P R N s t b p kd a).2)) := by
    intro g hg
    unfold x_ask
    rw [← hg]
    have bad1 : am_W sc 101 62 [.ref M, .int s, .long t, .retAddr 1, .int b, .int p, .int kd, .int a, .int (x_b g), .retAddr 1, .retAddr 1] [.ref M] (xm m M X) (am_R1 (some (.int 0)) (xm m M (x_th X 1))) := by
      refine am_iconst (i := 1) (v := 1) rfl iX7_ask_62 ?_
      refine am_goto iX7_ask_63 ?_
      refine x_putI hM iX7_ask_90 fX7_ask_121 rfl rfl ?_
      refine am_aload_n iX7_ask_93 rfl rfl ?_
      refine x_getI hM iX7_ask_94 fX7_ask_121 ?_
      rw [xU_s]
      refine am_if_le iX7_ask_97 (fun hc => absurd hc (by decide)) (fun _ => ?_)
      refine am_iconst (i := 0) (v := 0) rfl iX7_ask_100 ?_
      exact am_iret iX7_ask_101 rfl (⟨rfl, rfl⟩)
    refine am_istore_8 iX7_ask_41 rfl rfl ?_
    refine am_aload_n iX7_ask_43 rfl rfl ?_
    refine am_iload_n iX7_ask_44 rfl rfl ?_
    refine am_cS1r iX7_ask_45 cX7_ask_152 mX7_isSession rfl rfl rfl (x_isSession _) ?_
    cases hs : x_rg s 0 7
    · refine am_if_eq iX7_ask_48 (fun _ => ?_) (fun hc => absurd (by decide) hc)
      exact bad1
    · refine am_if_eq iX7_ask_48 (fun hc => absurd hc (by decide)) (fun _ => ?_)
      refine am_aload_n iX7_ask_51 rfl rfl ?_
      refine am_iload iX7_ask_52 rfl ?_
      refine am_iload iX7_ask_54 rfl ?_
      refine am_cV2r iX7_ask_56 cX7_ask_243 mX7_isQuestion hM.1 rfl rfl rfl (x_isQ_ok hM hP _ _) ?_
      cases hq : x_isQ P kd a
      · refine am_if_ne iX7_ask_59 (fun hc => absurd (rfl) hc) (fun _ => ?_)
        exact bad1
      · refine am_if_ne iX7_ask_59 (fun _ => ?_) (fun hc => absurd hc (by decide))
        rw [if_neg (by decide)]
        obtain ⟨n, hn, hnt, rfl⟩ := x_rg_ex 8 hs (by omega)
        rw [hnt]
        refine am_iload iX7_ask_66 rfl ?_
        cases g with
        | false =>
          refine am_if_ne iX7_ask_68 (fun hc => absurd (rfl) hc) (fun _ => ?_)
          rw [if_pos rfl]
          refine am_iconst (i := 2) (v := 2) rfl iX7_ask_71 ?_
          refine am_goto iX7_ask_72 ?_
          refine x_putI hM iX7_ask_90 fX7_ask_121 rfl rfl ?_
          refine am_aload_n iX7_ask_93 rfl rfl ?_
          refine x_getI hM iX7_ask_94 fX7_ask_121 ?_
          rw [xU_s]
          refine am_if_le iX7_ask_97 (fun hc => absurd hc (by decide)) (fun _ => ?_)
          refine am_iconst (i := 0) (v := 0) rfl iX7_ask_100 ?_
          exact am_iret iX7_ask_101 rfl (⟨rfl, rfl⟩)
        | true =>
          refine am_if_ne iX7_ask_68 (fun _ => ?_) (fun hc => absurd hc (by decide))
          rw [if_neg (by decide)]
          refine am_aload_n iX7_ask_75 rfl rfl ?_
          refine x_getI hM iX7_ask_76 fX7_ask_204 ?_
          refine am_sipush (i := 500) (v := 500) rfl iX7_ask_79 ?_
          rw [hN.1]
          refine am_icmp_ne iX7_ask_82 (fun h5 => ?_) (fun h5 => ?_)
          · have h5' : ¬ N = 500 := fun z => h5 (congrArg nI z)
            rw [if_neg h5']
            refine am_iconst (i := 0) (v := 0) rfl iX7_ask_89 ?_
            refine x_putI hM iX7_ask_90 fX7_ask_121 rfl rfl ?_
            refine am_aload_n iX7_ask_93 rfl rfl ?_
            refine x_getI hM iX7_ask_94 fX7_ask_121 ?_
            rw [xU_s]
            refine am_if_le iX7_ask_97 (fun _ => ?_) (fun hc => absurd (by decide) hc)
            obtain ⟨h, hh, hht, hh2⟩ := x_ix_ex (hW.2.2.2.2.2.2 n hn)
            rw [hht]
            exact x_ask_fill (X := x_th X 0) hM hP hN (by omega) hn hh2 hh (x_isQ_qI hq)
          · have h5' : N = 500 := (nI_eq (a := N) (b := 500) (by omega) (by omega)).mp h5
            rw [if_pos h5']
            refine am_iconst (i := 3) (v := 3) rfl iX7_ask_85 ?_
            refine am_goto iX7_ask_86 ?_
            refine x_putI hM iX7_ask_90 fX7_ask_121 rfl rfl ?_
            refine am_aload_n iX7_ask_93 rfl rfl ?_
            refine x_getI hM iX7_ask_94 fX7_ask_121 ?_
            rw [xU_s]
            refine am_if_le iX7_ask_97 (fun hc => absurd hc (by decide)) (fun _ => ?_)
            refine am_iconst (i := 0) (v := 0) rfl iX7_ask_100 ?_
            exact am_iret iX7_ask_101 rfl (⟨rfl, rfl⟩)
  refine am_aload_n iX7_ask_0 rfl rfl ?_
  refine am_lload_n iX7_ask_1 rfl rfl ?_
  refine am_cV1r iX7_ask_2 cX7_ask_237 mX7_isToken hM.1 rfl rfl rfl (x_isToken hM hP _) ?_
  cases ht : x_isTok X P t
  · refine am_if_eq iX7_ask_5 (fun _ => ?_) (fun hc => absurd (by decide) hc)
    refine am_iconst (i := 0) (v := 0) rfl iX7_ask_40 ?_
    exact st2 false (by rw [ht]; rfl)
  · refine am_if_eq iX7_ask_5 (fun hc => absurd hc (by decide)) (fun _ => ?_)
    refine am_iload iX7_ask_8 rfl ?_
    refine am_i2l iX7_ask_10 ?_
    refine am_ldc2 (v := -1) (wd_937) iX7_ask_11 ?_
    refine am_ldc2 (v := 400) (wd_938) iX7_ask_14 ?_
    refine am_cS3r iX7_ask_17 cX7_ask_148 mX7_in rfl rfl rfl (x_in _ _ _) ?_
    rw [x_rgL]
    show am_W _ _ _ _ (.int (x_b (x_rg b (-1) 400)) :: _) _ _
    cases hb : x_rg b (-1) 400
    · refine am_if_eq iX7_ask_20 (fun _ => ?_) (fun hc => absurd (by decide) hc)
      refine am_iconst (i := 0) (v := 0) rfl iX7_ask_40 ?_
      exact st2 false (by rw [ht, hb]; rfl)
    · refine am_if_eq iX7_ask_20 (fun hc => absurd hc (by decide)) (fun _ => ?_)
      refine am_iload iX7_ask_23 rfl ?_
      refine am_i2l iX7_ask_25 ?_
      refine am_lconst (i := 0) (v := 0) rfl iX7_ask_26 ?_
      refine am_ldc2 (v := 1000) (wd_860) iX7_ask_27 ?_
      refine am_cS3r iX7_ask_30 cX7_ask_148 mX7_in rfl rfl rfl (x_in _ _ _) ?_
      rw [x_rgL]
      show am_W _ _ _ _ (.int (x_b (x_rg p 0 1000)) :: _) _ _
      cases hp : x_rg p 0 1000
      · refine am_if_eq iX7_ask_33 (fun _ => ?_) (fun hc => absurd (by decide) hc)
        refine am_iconst (i := 0) (v := 0) rfl iX7_ask_40 ?_
        exact st2 false (by rw [ht, hb, hp]; rfl)
      · refine am_if_eq iX7_ask_33 (fun hc => absurd hc (by decide)) (fun _ => ?_)
        refine am_iconst (i := 1) (v := 1) rfl iX7_ask_36 ?_
        refine am_goto iX7_ask_37 ?_
        exact st2 true (by rw [ht, hb, hp]; rfl)
end
