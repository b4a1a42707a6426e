/-! the reference: commands; what is logged, read, counted -/
section
variable {sc : Nat × (Nat → Int32)} {m : am_Mem} {M : Nat} {X Y : ms_X} {P R N : Nat}
def x_nd (X : ms_X) (s q : Nat) : Int32 :=
  let a := if X.1 19 s &&& 4 = 0 then 0 else X.1 22 (3 * s + q)
  if X.1 19 s &&& 8 = 0 then a else if a ≤ X.1 21 (3 * s + q) then X.1 21 (3 * s + q) else a
def x_ndN (X : ms_X) (s k : Nat) : Nat → ms_X
  | 0 => X
  | q + 1 => xU (x_ndN X s k q) 7 (3 * k + q) (x_nd (x_ndN X s k q) s q)
theorem x_ndN_o (X : ms_X) (s k : Nat) {a j : Nat} (h : a ≠ 7) : ∀ q, (x_ndN X s k q).1 a j = X.1 a j
  | 0 => rfl
  | q + 1 => (xU_o _ _ h).trans (x_ndN_o X s k h q)
def x_cmd0 (X : ms_X) (p k : Nat) (e kd it cu am : Int32) : ms_X := xU (xU (xU (xU (xU X 1 p e) 3 k kd) 4 k it) 5 k cu) 6 k am
theorem x_cmd0_o (X : ms_X) (p k : Nat) (e kd it cu am : Int32) {a j : Nat} (h1 : a ≠ 1) (h3 : a ≠ 3) (h4 : a ≠ 4) (h5 : a ≠ 5) (h6 : a ≠ 6) : (x_cmd0 X p k e kd it cu am).1 a j = X.1 a j := by
  unfold x_cmd0
  rw [xU_o _ _ h6, xU_o _ _ h5, xU_o _ _ h4, xU_o _ _ h3, xU_o _ _ h1]
def x_cmd2 (X : ms_X) (s p e : Nat) (kd it cu am : Int32) : ms_X := xU (x_ndN (x_cmd0 X p (401 * p + (e + 1)) (nI (e + 1)) kd it cu am) s (401 * p + (e + 1)) 3) 21 (3 * s + p) (nI (e + 1))
def x_cmdT (X : ms_X) (p e : Nat) : Int64 := x_tok (if p = 0 then nI (e + 1) else X.1 7 (3 * (401 * p + (e + 1)))) (if p = 1 then nI (e + 1) else X.1 7 (3 * (401 * p + (e + 1)) + 1)) (if p = 2 then nI (e + 1) else X.1 7 (3 * (401 * p + (e + 1)) + 2))
def x_cmd1 (X : ms_X) (s p e : Nat) (kd it cu am : Int32) : Int64 × ms_X := (x_cmdT (x_cmd2 X s p e kd it cu am) p e, x_cmd2 X s p e kd it cu am)
def x_cmd (X : ms_X) (P : Nat) (s kd it cu am : Int32) : Int64 × ms_X :=
  if (x_rg s 0 7 && (x_rg it 0 29 && x_rg cu 0 9)) = false then (0, x_th X 1)
  else if (x_rg kd 0 4 && x_rg am 1 1000) = false then (0, x_th X 2)
  else if X.1 1 (nt it % P) = 400 then (0, x_th X 3)
  else x_cmd1 (x_th X 0) (nt s) (nt it % P) (nt (X.1 1 (nt it % P))) kd it cu am
set_option maxHeartbeats 4000000 in
theorem x_cmd_fin (hM : LM m M) {n p i k e : Nat} {Z : ms_X} {kd cu am : Int32} (hn : n < 8) (hp3 : p < 3) (hk3 : k < 1203) (b1 : 3 * n + p < 24) (e1 : ∀ q, (x_ndN Z n k q).1 1 p = nI (e + 1)) : ∀ v10 : Value, am_W sc 79 196 [.ref M, .int (nI n), .int kd, .int (nI i), .int cu, .int am, .int (nI p), .int 1, .int (nI k), .int (nI 3), v10] [] (xm m M (x_ndN Z n k 3)) (am_R1 (some (.long (x_tok (if p = 0 then nI (e + 1) else (xU (x_ndN Z n k 3) 21 (3 * n + p) (nI (e + 1))).1 7 (3 * k)) (if p = 1 then nI (e + 1) else (xU (x_ndN Z n k 3) 21 (3 * n + p) (nI (e + 1))).1 7 (3 * k + 1)) (if p = 2 then nI (e + 1) else (xU (x_ndN Z n k 3) 21 (3 * n + p) (nI (e + 1))).1 7 (3 * k + 2))))) (xm m M (xU (x_ndN Z n k 3) 21 (3 * n + p) (nI (e + 1))))) := by
  intro v10
  have e3 := e1 3
  generalize x_ndN Z n k 3 = W at e3 ⊢
  refine am_iload iX7_command_196 rfl ?_
  refine am_iconst (i := 3) (v := 3) rfl iX7_command_198 ?_
  refine am_icmp_ge iX7_command_199 (fun _ => ?_) (fun hc => absurd (by decide) hc)
  refine am_aload_n iX7_command_280 rfl rfl ?_
  refine x_getR 21 hM iX7_command_281 fX7_command_72 rfl rfl rfl ?_
  refine am_iconst (i := 3) (v := 3) rfl iX7_command_284 ?_
  refine am_iload_n iX7_command_285 rfl rfl ?_
  refine am_imul iX7_command_286 ?_
  refine am_iload iX7_command_287 rfl ?_
  refine am_iadd iX7_command_289 ?_
  refine am_aload_n iX7_command_290 rfl rfl ?_
  refine x_getR 1 hM iX7_command_291 fX7_command_7 rfl rfl rfl ?_
  refine am_iload iX7_command_294 rfl ?_
  refine x_iald (p) hM rfl iX7_command_296 (by first | rfl | simp only [nI_add, pk_mul, nI_1, nL0, nL1, nL2, nL3, nL4, nL10, nL30, nL300, nL401]) (hp3) ?_
  rw [e3]
  refine x_iast (3 * n + p) hM rfl iX7_command_297 (by first | rfl | simp only [nI_add, pk_mul, nI_1, nL0, nL1, nL2, nL3, nL4, nL10, nL30, nL300, nL401]) (b1) ?_
  refine am_iload iX7_command_298 rfl ?_
  have e4 : (xU W 21 (3 * n + p) (nI (e + 1))).1 1 p = nI (e + 1) := by rw [xU_o _ _ (by decide), e3]
  generalize xU W 21 (3 * n + p) (nI (e + 1)) = V at e4 ⊢
  have c0 : 3 * k < 3609 := by omega
  have c1 : 3 * k + 1 < 3609 := by omega
  have c2 : 3 * k + 2 < 3609 := by omega
  rcases (show p = 0 ∨ p = 1 ∨ p = 2 by omega) with rfl | rfl | rfl
  · refine am_if_ne iX7_command_300 (fun hc => absurd (rfl) hc) (fun _ => ?_)
    refine am_aload_n iX7_command_303 rfl rfl ?_
    refine x_getR 1 hM iX7_command_304 fX7_command_7 rfl rfl rfl ?_
    refine am_iconst (i := 0) (v := 0) rfl iX7_command_307 ?_
    refine x_iald (0) hM rfl iX7_command_308 (by first | rfl | simp only [nI_add, pk_mul, nI_1, nL0, nL1, nL2, nL3, nL4, nL10, nL30, nL300, nL401]) (hp3) ?_
    refine am_goto iX7_command_309 ?_
    refine am_iload iX7_command_321 rfl ?_
    refine am_iconst (i := 1) (v := 1) rfl iX7_command_323 ?_
    rw [e4]
    refine am_icmp_ne iX7_command_324 (fun _ => ?_) (fun hc => absurd hc (by decide))
    refine am_aload_n iX7_command_336 rfl rfl ?_
    refine x_getR 7 hM iX7_command_337 fX7_command_28 rfl rfl rfl ?_
    refine am_iconst (i := 3) (v := 3) rfl iX7_command_340 ?_
    refine am_iload iX7_command_341 rfl ?_
    refine am_imul iX7_command_343 ?_
    refine am_iconst (i := 1) (v := 1) rfl iX7_command_344 ?_
    refine am_iadd iX7_command_345 ?_
    refine x_iald (3 * k + 1) hM rfl iX7_command_346 (by first | rfl | simp only [nI_add, pk_mul, nI_1, nL0, nL1, nL2, nL3, nL4, nL10, nL30, nL300, nL401]) (c1) ?_
    refine am_iload iX7_command_347 rfl ?_
    refine am_iconst (i := 2) (v := 2) rfl iX7_command_349 ?_
    refine am_icmp_ne iX7_command_350 (fun _ => ?_) (fun hc => absurd hc (by decide))
    refine am_aload_n iX7_command_362 rfl rfl ?_
    refine x_getR 7 hM iX7_command_363 fX7_command_28 rfl rfl rfl ?_
    refine am_iconst (i := 3) (v := 3) rfl iX7_command_366 ?_
    refine am_iload iX7_command_367 rfl ?_
    refine am_imul iX7_command_369 ?_
    refine am_iconst (i := 2) (v := 2) rfl iX7_command_370 ?_
    refine am_iadd iX7_command_371 ?_
    refine x_iald (3 * k + 2) hM rfl iX7_command_372 (by first | rfl | simp only [nI_add, pk_mul, nI_1, nL0, nL1, nL2, nL3, nL4, nL10, nL30, nL300, nL401]) (c2) ?_
    refine am_cS3r iX7_command_373 cX7_command_177 mX7_tokenOf rfl rfl rfl (x_tokenOf _ _ _) ?_
    exact am_lret iX7_command_376 rfl (⟨by rw [if_pos rfl, if_neg (by decide), if_neg (by decide)], rfl⟩)
  · refine am_if_ne iX7_command_300 (fun _ => ?_) (fun hc => absurd hc (by decide))
    refine am_aload_n iX7_command_312 rfl rfl ?_
    refine x_getR 7 hM iX7_command_313 fX7_command_28 rfl rfl rfl ?_
    refine am_iconst (i := 3) (v := 3) rfl iX7_command_316 ?_
    refine am_iload iX7_command_317 rfl ?_
    refine am_imul iX7_command_319 ?_
    refine x_iald (3 * k) hM rfl iX7_command_320 (by first | rfl | simp only [nI_add, pk_mul, nI_1, nL0, nL1, nL2, nL3, nL4, nL10, nL30, nL300, nL401]) (c0) ?_
    refine am_iload iX7_command_321 rfl ?_
    refine am_iconst (i := 1) (v := 1) rfl iX7_command_323 ?_
    refine am_icmp_ne iX7_command_324 (fun hc => absurd (rfl) hc) (fun _ => ?_)
    refine am_aload_n iX7_command_327 rfl rfl ?_
    refine x_getR 1 hM iX7_command_328 fX7_command_7 rfl rfl rfl ?_
    refine am_iconst (i := 1) (v := 1) rfl iX7_command_331 ?_
    refine x_iald (1) hM rfl iX7_command_332 (by first | rfl | simp only [nI_add, pk_mul, nI_1, nL0, nL1, nL2, nL3, nL4, nL10, nL30, nL300, nL401]) (hp3) ?_
    refine am_goto iX7_command_333 ?_
    refine am_iload iX7_command_347 rfl ?_
    refine am_iconst (i := 2) (v := 2) rfl iX7_command_349 ?_
    rw [e4]
    refine am_icmp_ne iX7_command_350 (fun _ => ?_) (fun hc => absurd hc (by decide))
    refine am_aload_n iX7_command_362 rfl rfl ?_
    refine x_getR 7 hM iX7_command_363 fX7_command_28 rfl rfl rfl ?_
    refine am_iconst (i := 3) (v := 3) rfl iX7_command_366 ?_
    refine am_iload iX7_command_367 rfl ?_
    refine am_imul iX7_command_369 ?_
    refine am_iconst (i := 2) (v := 2) rfl iX7_command_370 ?_
    refine am_iadd iX7_command_371 ?_
    refine x_iald (3 * k + 2) hM rfl iX7_command_372 (by first | rfl | simp only [nI_add, pk_mul, nI_1, nL0, nL1, nL2, nL3, nL4, nL10, nL30, nL300, nL401]) (c2) ?_
    refine am_cS3r iX7_command_373 cX7_command_177 mX7_tokenOf rfl rfl rfl (x_tokenOf _ _ _) ?_
    exact am_lret iX7_command_376 rfl (⟨by rw [if_neg (by decide), if_pos rfl, if_neg (by decide)], rfl⟩)
  · refine am_if_ne iX7_command_300 (fun _ => ?_) (fun hc => absurd hc (by decide))
    refine am_aload_n iX7_command_312 rfl rfl ?_
    refine x_getR 7 hM iX7_command_313 fX7_command_28 rfl rfl rfl ?_
    refine am_iconst (i := 3) (v := 3) rfl iX7_command_316 ?_
    refine am_iload iX7_command_317 rfl ?_
    refine am_imul iX7_command_319 ?_
    refine x_iald (3 * k) hM rfl iX7_command_320 (by first | rfl | simp only [nI_add, pk_mul, nI_1, nL0, nL1, nL2, nL3, nL4, nL10, nL30, nL300, nL401]) (c0) ?_
    refine am_iload iX7_command_321 rfl ?_
    refine am_iconst (i := 1) (v := 1) rfl iX7_command_323 ?_
    refine am_icmp_ne iX7_command_324 (fun _ => ?_) (fun hc => absurd hc (by decide))
    refine am_aload_n iX7_command_336 rfl rfl ?_
    refine x_getR 7 hM iX7_command_337 fX7_command_28 rfl rfl rfl ?_
    refine am_iconst (i := 3) (v := 3) rfl iX7_command_340 ?_
    refine am_iload iX7_command_341 rfl ?_
    refine am_imul iX7_command_343 ?_
    refine am_iconst (i := 1) (v := 1) rfl iX7_command_344 ?_
    refine am_iadd iX7_command_345 ?_
    refine x_iald (3 * k + 1) hM rfl iX7_command_346 (by first | rfl | simp only [nI_add, pk_mul, nI_1, nL0, nL1, nL2, nL3, nL4, nL10, nL30, nL300, nL401]) (c1) ?_
    refine am_iload iX7_command_347 rfl ?_
    refine am_iconst (i := 2) (v := 2) rfl iX7_command_349 ?_
    refine am_icmp_ne iX7_command_350 (fun hc => absurd (rfl) hc) (fun _ => ?_)
    refine am_aload_n iX7_command_353 rfl rfl ?_
    refine x_getR 1 hM iX7_command_354 fX7_command_7 rfl rfl rfl ?_
    refine am_iconst (i := 2) (v := 2) rfl iX7_command_357 ?_
    refine x_iald (2) hM rfl iX7_command_358 (by first | rfl | simp only [nI_add, pk_mul, nI_1, nL0, nL1, nL2, nL3, nL4, nL10, nL30, nL300, nL401]) (hp3) ?_
    refine am_goto iX7_command_359 ?_
    rw [e4]
    refine am_cS3r iX7_command_373 cX7_command_177 mX7_tokenOf rfl rfl rfl (x_tokenOf _ _ _) ?_
    exact am_lret iX7_command_376 rfl (⟨by rw [if_neg (by decide), if_neg (by decide), if_pos rfl], rfl⟩)
set_option maxHeartbeats 4000000 in
theorem x_cmd_loop (hM : LM m M) {n p i k e : Nat} {Z : ms_X} {kd cu am : Int32} (hn : n < 8) (hp3 : p < 3) (hk3 : k < 1203) (b1 : 3 * n + p < 24) (e1 : ∀ q, (x_ndN Z n k q).1 1 p = nI (e + 1)) : ∀ d q : Nat, q + d = 3 → ∀ v10 : Value, am_W sc 79 196 [.ref M, .int (nI n), .int kd, .int (nI i), .int cu, .int am, .int (nI p), .int 1, .int (nI k), .int (nI q), v10] [] (xm m M (x_ndN Z n k q)) (am_R1 (some (.long (x_tok (if p = 0 then nI (e + 1) else (xU (x_ndN Z n k 3) 21 (3 * n + p) (nI (e + 1))).1 7 (3 * k)) (if p = 1 then nI (e + 1) else (xU (x_ndN Z n k 3) 21 (3 * n + p) (nI (e + 1))).1 7 (3 * k + 1)) (if p = 2 then nI (e + 1) else (xU (x_ndN Z n k 3) 21 (3 * n + p) (nI (e + 1))).1 7 (3 * k + 2))))) (xm m M (xU (x_ndN Z n k 3) 21 (3 * n + p) (nI (e + 1))))) := by
  intro d
  induction d with
  | zero =>
    intro q hq v10
    have e9 : q = 3 := by omega
    subst e9
    exact x_cmd_fin hM hn hp3 hk3 b1 e1 v10
  | succ d ih =>
    intro q hq v10
    have b2 : 3 * n + q < 24 := by omega
    have b3 : 3 * k + q < 3609 := by omega
    refine am_iload iX7_command_196 rfl ?_
    refine am_iconst (i := 3) (v := 3) rfl iX7_command_198 ?_
    refine am_icmp_ge iX7_command_199 (fun hc => absurd hc (fun z => absurd ((nI_leI (b := q) (a := 3) (by omega) (by omega)).mp z) (by omega))) (fun _ => ?_)
    have e5 : x_ndN Z n k (q + 1) = xU (x_ndN Z n k q) 7 (3 * k + q) (x_nd (x_ndN Z n k q) n q) := rfl
    have tail : ∀ a : Int32, x_nd (x_ndN Z n k q) n q = (if (x_ndN Z n k q).1 19 n &&& 8 = 0 then a else if a ≤ (x_ndN Z n k q).1 21 (3 * n + q) then (x_ndN Z n k q).1 21 (3 * n + q) else a) → am_W sc 79 228 [.ref M, .int (nI n), .int kd, .int (nI i), .int cu, .int am, .int (nI p), .int 1, .int (nI k), .int (nI q), v10] [.int a] (xm m M (x_ndN Z n k q)) (am_R1 (some (.long (x_tok (if p = 0 then nI (e + 1) else (xU (x_ndN Z n k 3) 21 (3 * n + p) (nI (e + 1))).1 7 (3 * k)) (if p = 1 then nI (e + 1) else (xU (x_ndN Z n k 3) 21 (3 * n + p) (nI (e + 1))).1 7 (3 * k + 1)) (if p = 2 then nI (e + 1) else (xU (x_ndN Z n k 3) 21 (3 * n + p) (nI (e + 1))).1 7 (3 * k + 2))))) (xm m M (xU (x_ndN Z n k 3) 21 (3 * n + p) (nI (e + 1))))) := by
      intro a hnd
      refine am_istore_10 iX7_command_228 rfl rfl ?_
      refine am_aload_n iX7_command_230 rfl rfl ?_
      refine x_getR 19 hM iX7_command_231 fX7_command_66 rfl rfl rfl ?_
      refine am_iload_n iX7_command_234 rfl rfl ?_
      refine x_iald (n) hM rfl iX7_command_235 (by first | rfl | simp only [nI_add, pk_mul, nI_1, nL0, nL1, nL2, nL3, nL4, nL10, nL30, nL300, nL401]) (hn) ?_
      refine am_bipush (i := 8) (v := 8) rfl iX7_command_236 ?_
      refine am_iand iX7_command_238 ?_
      refine am_if_eq iX7_command_239 (fun h8 => ?_) (fun h8 => ?_)
      · rw [if_pos h8] at hnd
        refine am_aload_n iX7_command_260 rfl rfl ?_
        refine x_getR 7 hM iX7_command_261 fX7_command_28 rfl rfl rfl ?_
        refine am_iconst (i := 3) (v := 3) rfl iX7_command_264 ?_
        refine am_iload iX7_command_265 rfl ?_
        refine am_imul iX7_command_267 ?_
        refine am_iload iX7_command_268 rfl ?_
        refine am_iadd iX7_command_270 ?_
        refine am_iload iX7_command_271 rfl ?_
        refine x_iast (3 * k + q) hM rfl iX7_command_273 (by first | rfl | simp only [nI_add, pk_mul, nI_1, nL0, nL1, nL2, nL3, nL4, nL10, nL30, nL300, nL401]) (b3) ?_
        rw [← hnd, ← e5]
        refine am_iinc_9 1 iX7_command_274 rfl rfl rfl ?_
        refine am_goto iX7_command_277 ?_
        rw [nI_1]
        exact ih (q + 1) (by omega) _
      · rw [if_neg h8] at hnd
        refine am_iload iX7_command_242 rfl ?_
        refine am_aload_n iX7_command_244 rfl rfl ?_
        refine x_getR 21 hM iX7_command_245 fX7_command_72 rfl rfl rfl ?_
        refine am_iconst (i := 3) (v := 3) rfl iX7_command_248 ?_
        refine am_iload_n iX7_command_249 rfl rfl ?_
        refine am_imul iX7_command_250 ?_
        refine am_iload iX7_command_251 rfl ?_
        refine am_iadd iX7_command_253 ?_
        refine x_iald (3 * n + q) hM rfl iX7_command_254 (by first | rfl | simp only [nI_add, pk_mul, nI_1, nL0, nL1, nL2, nL3, nL4, nL10, nL30, nL300, nL401]) (b2) ?_
        refine am_cS2r iX7_command_255 cX7_command_173 mX7_greater rfl rfl rfl (x_greater _ _) ?_
        refine am_istore_10 iX7_command_258 rfl rfl ?_
        refine am_aload_n iX7_command_260 rfl rfl ?_
        refine x_getR 7 hM iX7_command_261 fX7_command_28 rfl rfl rfl ?_
        refine am_iconst (i := 3) (v := 3) rfl iX7_command_264 ?_
        refine am_iload iX7_command_265 rfl ?_
        refine am_imul iX7_command_267 ?_
        refine am_iload iX7_command_268 rfl ?_
        refine am_iadd iX7_command_270 ?_
        refine am_iload iX7_command_271 rfl ?_
        refine x_iast (3 * k + q) hM rfl iX7_command_273 (by first | rfl | simp only [nI_add, pk_mul, nI_1, nL0, nL1, nL2, nL3, nL4, nL10, nL30, nL300, nL401]) (b3) ?_
        rw [← hnd, ← e5]
        refine am_iinc_9 1 iX7_command_274 rfl rfl rfl ?_
        refine am_goto iX7_command_277 ?_
        rw [nI_1]
        exact ih (q + 1) (by omega) _
    refine am_aload_n iX7_command_202 rfl rfl ?_
    refine x_getR 19 hM iX7_command_203 fX7_command_66 rfl rfl rfl ?_
    refine am_iload_n iX7_command_206 rfl rfl ?_
    refine x_iald (n) hM rfl iX7_command_207 (by first | rfl | simp only [nI_add, pk_mul, nI_1, nL0, nL1, nL2, nL3, nL4, nL10, nL30, nL300, nL401]) (hn) ?_
    refine am_iconst (i := 4) (v := 4) rfl iX7_command_208 ?_
    refine am_iand iX7_command_209 ?_
    refine am_if_eq iX7_command_210 (fun h4 => ?_) (fun h4 => ?_)
    · refine am_iconst (i := 0) (v := 0) rfl iX7_command_227 ?_
      exact tail 0 (by unfold x_nd; rw [if_pos h4])
    · refine am_aload_n iX7_command_213 rfl rfl ?_
      refine x_getR 22 hM iX7_command_214 fX7_command_75 rfl rfl rfl ?_
      refine am_iconst (i := 3) (v := 3) rfl iX7_command_217 ?_
      refine am_iload_n iX7_command_218 rfl rfl ?_
      refine am_imul iX7_command_219 ?_
      refine am_iload iX7_command_220 rfl ?_
      refine am_iadd iX7_command_222 ?_
      refine x_iald (3 * n + q) hM rfl iX7_command_223 (by first | rfl | simp only [nI_add, pk_mul, nI_1, nL0, nL1, nL2, nL3, nL4, nL10, nL30, nL300, nL401]) (b2) ?_
      refine am_goto iX7_command_224 ?_
      exact tail _ (by unfold x_nd; rw [if_neg h4])
set_option maxHeartbeats 4000000 in
theorem x_cmd_ok (hM : LM m M) (hP : x_PR X P R) (hE : ∀ p, p < 3 → x_ix (X.1 1 p) 401) (s kd it cu am : Int32) : am_W sc 79 0 [.ref M, .int s, .int kd, .int it, .int cu, .int am, .retAddr 1, .retAddr 1, .retAddr 1, .retAddr 1, .retAddr 1] [] (xm m M X) (am_R1 (some (.long (x_cmd X P s kd it cu am).1)) (xm m M (x_cmd X P s kd it cu am).2)) := by
  have hP3 := hP.2.2.1
  have hP4 := hP.2.2.2.1
  unfold x_cmd
  have bad1 : ∀ v6 : Int32, am_W sc 79 60 [.ref M, .int s, .int kd, .int it, .int cu, .int am, .int v6, .retAddr 1, .retAddr 1, .retAddr 1, .retAddr 1] [] (xm m M X) (am_R1 (some (.long 0)) (xm m M (x_th X 1))) := by
    intro v6
    refine am_iconst (i := 0) (v := 0) rfl iX7_command_60 ?_
    refine am_istore_7 iX7_command_61 rfl rfl ?_
    refine am_aload_n iX7_command_63 rfl rfl ?_
    refine am_iload iX7_command_64 rfl ?_
    refine am_if_ne iX7_command_66 (fun hc => absurd (rfl) hc) (fun _ => ?_)
    refine am_iconst (i := 1) (v := 1) rfl iX7_command_69 ?_
    refine am_goto iX7_command_70 ?_
    refine x_putI hM iX7_command_120 fX7_command_121 rfl rfl ?_
    refine am_aload_n iX7_command_123 rfl rfl ?_
    refine x_getI hM iX7_command_124 fX7_command_121 ?_
    rw [xU_s]
    refine am_if_le iX7_command_127 (fun hc => absurd hc (by decide)) (fun _ => ?_)
    refine am_lconst (i := 0) (v := 0) rfl iX7_command_130 ?_
    exact am_lret iX7_command_131 rfl (⟨rfl, rfl⟩)
  refine am_iload_n iX7_command_0 rfl rfl ?_
  refine am_i2l iX7_command_1 ?_
  refine am_lconst (i := 0) (v := 0) rfl iX7_command_2 ?_
  refine am_ldc2 (v := 29) (wd_857) iX7_command_3 ?_
  refine am_cS3r iX7_command_6 cX7_command_148 mX7_in rfl rfl rfl (x_in _ _ _) ?_
  rw [x_rgL]
  show am_W _ _ _ _ (.int (x_b (x_rg it 0 29)) :: _) _ _
  cases hi : x_rg it 0 29
  · refine am_if_eq iX7_command_9 (fun _ => ?_) (fun hc => absurd (by decide) hc)
    refine am_iconst (i := 0) (v := 0) rfl iX7_command_21 ?_
    refine am_istore_6 iX7_command_22 rfl rfl ?_
    refine am_iload_n iX7_command_24 rfl rfl ?_
    refine am_cS1r iX7_command_25 cX7_command_152 mX7_isSession rfl rfl rfl (x_isSession _) ?_
    rw [if_pos (by cases x_rg s 0 7 <;> rfl)]
    cases hs : x_rg s 0 7
    · refine am_if_eq iX7_command_28 (fun _ => ?_) (fun hc => absurd (by decide) hc)
      exact bad1 _
    · refine am_if_eq iX7_command_28 (fun hc => absurd hc (by decide)) (fun _ => ?_)
      refine am_iload_n iX7_command_31 rfl rfl ?_
      refine am_i2l iX7_command_32 ?_
      refine am_lconst (i := 0) (v := 0) rfl iX7_command_33 ?_
      refine am_ldc2 (v := 29) (wd_857) iX7_command_34 ?_
      refine am_cS3r iX7_command_37 cX7_command_148 mX7_in rfl rfl rfl (x_in _ _ _) ?_
      rw [x_rgL]
      show am_W _ _ _ _ (.int (x_b (x_rg it 0 29)) :: _) _ _
      rw [hi]
      refine am_if_eq iX7_command_40 (fun _ => ?_) (fun hc => absurd (by decide) hc)
      exact bad1 _
  · obtain ⟨i, hi1, hit, rfl⟩ := x_rg_ex 30 hi (by omega)
    rw [hit]
    have hp : i % P < P := Nat.mod_lt _ (by omega)
    refine am_if_eq iX7_command_9 (fun hc => absurd hc (by decide)) (fun _ => ?_)
    refine am_iload_n iX7_command_12 rfl rfl ?_
    refine am_aload_n iX7_command_13 rfl rfl ?_
    refine x_getI hM iX7_command_14 fX7_command_114 ?_
    rw [hP.1]
    refine am_irem (fun q => absurd ((nI_eq (a := P) (b := 0) (by omega) (by omega)).mp q) (by omega)) iX7_command_17 ?_
    rw [pk_rem (by omega) (by omega) (by omega)]
    generalize i % P = p at hp ⊢
    refine am_goto iX7_command_18 ?_
    refine am_istore_6 iX7_command_22 rfl rfl ?_
    refine am_iload_n iX7_command_24 rfl rfl ?_
    refine am_cS1r iX7_command_25 cX7_command_152 mX7_isSession rfl rfl rfl (x_isSession _) ?_
    cases hs : x_rg s 0 7
    · refine am_if_eq iX7_command_28 (fun _ => ?_) (fun hc => absurd (by decide) hc)
      exact bad1 _
    · obtain ⟨n, hn, hnt, rfl⟩ := x_rg_ex 8 hs (by omega)
      rw [hnt]
      refine am_if_eq iX7_command_28 (fun hc => absurd hc (by decide)) (fun _ => ?_)
      refine am_iload_n iX7_command_31 rfl rfl ?_
      refine am_i2l iX7_command_32 ?_
      refine am_lconst (i := 0) (v := 0) rfl iX7_command_33 ?_
      refine am_ldc2 (v := 29) (wd_857) iX7_command_34 ?_
      refine am_cS3r iX7_command_37 cX7_command_148 mX7_in rfl rfl rfl (x_in _ _ _) ?_
      rw [x_rgL]
      show am_W _ _ _ _ (.int (x_b (x_rg (nI i) 0 29)) :: _) _ _
      rw [hi]
      refine am_if_eq iX7_command_40 (fun hc => absurd hc (by decide)) (fun _ => ?_)
      refine am_iload iX7_command_43 rfl ?_
      refine am_i2l iX7_command_45 ?_
      refine am_lconst (i := 0) (v := 0) rfl iX7_command_46 ?_
      refine am_ldc2 (v := 9) (wd_858) iX7_command_47 ?_
      refine am_cS3r iX7_command_50 cX7_command_148 mX7_in rfl rfl rfl (x_in _ _ _) ?_
      rw [x_rgL]
      show am_W _ _ _ _ (.int (x_b (x_rg cu 0 9)) :: _) _ _
      cases hc : x_rg cu 0 9
      · refine am_if_eq iX7_command_53 (fun _ => ?_) (fun hc => absurd (by decide) hc)
        exact bad1 _
      · refine am_if_eq iX7_command_53 (fun hc => absurd hc (by decide)) (fun _ => ?_)
        rw [if_neg (by decide)]
        have bad2 : am_W sc 79 98 [.ref M, .int (nI n), .int kd, .int (nI i), .int cu, .int am, .int (nI p), .int 1, .retAddr 1, .retAddr 1, .retAddr 1] [.ref M] (xm m M X) (am_R1 (some (.long 0)) (xm m M (x_th X 2))) := by
          refine am_iconst (i := 2) (v := 2) rfl iX7_command_98 ?_
          refine am_goto iX7_command_99 ?_
          refine x_putI hM iX7_command_120 fX7_command_121 rfl rfl ?_
          refine am_aload_n iX7_command_123 rfl rfl ?_
          refine x_getI hM iX7_command_124 fX7_command_121 ?_
          rw [xU_s]
          refine am_if_le iX7_command_127 (fun hc => absurd hc (by decide)) (fun _ => ?_)
          refine am_lconst (i := 0) (v := 0) rfl iX7_command_130 ?_
          exact am_lret iX7_command_131 rfl (⟨rfl, rfl⟩)
        refine am_iconst (i := 1) (v := 1) rfl iX7_command_56 ?_
        refine am_goto iX7_command_57 ?_
        refine am_istore_7 iX7_command_61 rfl rfl ?_
        refine am_aload_n iX7_command_63 rfl rfl ?_
        refine am_iload iX7_command_64 rfl ?_
        refine am_if_ne iX7_command_66 (fun _ => ?_) (fun hc => absurd hc (by decide))
        refine am_iload_n iX7_command_73 rfl rfl ?_
        refine am_i2l iX7_command_74 ?_
        refine am_lconst (i := 0) (v := 0) rfl iX7_command_75 ?_
        refine am_ldc2 (v := 4) (wd_859) iX7_command_76 ?_
        refine am_cS3r iX7_command_79 cX7_command_148 mX7_in rfl rfl rfl (x_in _ _ _) ?_
        rw [x_rgL]
        show am_W _ _ _ _ (.int (x_b (x_rg kd 0 4)) :: _) _ _
        cases hk : x_rg kd 0 4
        · refine am_if_eq iX7_command_82 (fun _ => ?_) (fun hc => absurd (by decide) hc)
          exact bad2
        · refine am_if_eq iX7_command_82 (fun hc => absurd hc (by decide)) (fun _ => ?_)
          refine am_iload iX7_command_85 rfl ?_
          refine am_i2l iX7_command_87 ?_
          refine am_lconst (i := 1) (v := 1) rfl iX7_command_88 ?_
          refine am_ldc2 (v := 1000) (wd_860) iX7_command_89 ?_
          refine am_cS3r iX7_command_92 cX7_command_148 mX7_in rfl rfl rfl (x_in _ _ _) ?_
          rw [x_rgL]
          show am_W _ _ _ _ (.int (x_b (x_rg am 1 1000)) :: _) _ _
          cases ha : x_rg am 1 1000
          · refine am_if_ne iX7_command_95 (fun hc => absurd (rfl) hc) (fun _ => ?_)
            exact bad2
          · refine am_if_ne iX7_command_95 (fun _ => ?_) (fun hc => absurd hc (by decide))
            rw [if_neg (by decide)]
            have hp3 : p < 3 := by omega
            refine am_aload_n iX7_command_102 rfl rfl ?_
            refine x_getR 1 hM iX7_command_103 fX7_command_7 rfl rfl rfl ?_
            refine am_iload iX7_command_106 rfl ?_
            refine x_iald (p) hM rfl iX7_command_108 (by first | rfl | simp only [nI_add, pk_mul, nI_1, nL0, nL1, nL2, nL3, nL4, nL10, nL30, nL300, nL401]) (hp3) ?_
            refine am_sipush (i := 400) (v := 400) rfl iX7_command_109 ?_
            refine am_icmp_ne iX7_command_112 (fun h4 => ?_) (fun h4 => ?_)
            · rw [if_neg h4]
              obtain ⟨e, he, het, he2⟩ := x_ix_ex (hE p hp3)
              have he4 : e < 400 := by
                rcases Nat.lt_or_ge e 400 with q | q
                · exact q
                · exact absurd (he2.trans (congrArg nI (show e = 400 by omega))) h4
              rw [het]
              refine am_iconst (i := 0) (v := 0) rfl iX7_command_119 ?_
              refine x_putI hM iX7_command_120 fX7_command_121 rfl rfl ?_
              refine am_aload_n iX7_command_123 rfl rfl ?_
              refine x_getI hM iX7_command_124 fX7_command_121 ?_
              rw [xU_s]
              refine am_if_le iX7_command_127 (fun _ => ?_) (fun hc => absurd (by decide) hc)
              refine am_aload_n iX7_command_132 rfl rfl ?_
              refine x_getR 1 hM iX7_command_133 fX7_command_7 rfl rfl rfl ?_
              refine am_iload iX7_command_136 rfl ?_
              refine am_dup2 iX7_command_138 rfl rfl ?_
              refine x_iald (p) hM rfl iX7_command_139 (by first | rfl | simp only [nI_add, pk_mul, nI_1, nL0, nL1, nL2, nL3, nL4, nL10, nL30, nL300, nL401]) (hp3) ?_
              rw [xU_o _ _ (by decide), he2]
              refine am_iconst (i := 1) (v := 1) rfl iX7_command_140 ?_
              refine am_iadd iX7_command_141 ?_
              rw [nI_1]
              refine x_iast (p) hM rfl iX7_command_142 (by first | rfl | simp only [nI_add, pk_mul, nI_1, nL0, nL1, nL2, nL3, nL4, nL10, nL30, nL300, nL401]) (hp3) ?_
              refine am_sipush (i := 401) (v := 401) rfl iX7_command_143 ?_
              refine am_iload iX7_command_146 rfl ?_
              refine am_imul iX7_command_148 ?_
              refine am_aload_n iX7_command_149 rfl rfl ?_
              refine x_getR 1 hM iX7_command_150 fX7_command_7 rfl rfl rfl ?_
              refine am_iload iX7_command_153 rfl ?_
              refine x_iald (p) hM rfl iX7_command_155 (by first | rfl | simp only [nI_add, pk_mul, nI_1, nL0, nL1, nL2, nL3, nL4, nL10, nL30, nL300, nL401]) (hp3) ?_
              rw [xU_s]
              refine am_iadd iX7_command_156 ?_
              rw [show (401 : Int32) * nI p + nI (e + 1) = nI (401 * p + (e + 1)) by simp only [nI_add, pk_mul, nL401]]
              have hk3 : 401 * p + (e + 1) < 1203 := by omega
              refine am_istore_8 iX7_command_157 rfl rfl ?_
              refine am_aload_n iX7_command_159 rfl rfl ?_
              refine x_getR 3 hM iX7_command_160 fX7_command_16 rfl rfl rfl ?_
              refine am_iload iX7_command_163 rfl ?_
              refine am_iload_n iX7_command_165 rfl rfl ?_
              refine x_iast (401 * p + (e + 1)) hM rfl iX7_command_166 (by first | rfl | simp only [nI_add, pk_mul, nI_1, nL0, nL1, nL2, nL3, nL4, nL10, nL30, nL300, nL401]) (hk3) ?_
              refine am_aload_n iX7_command_167 rfl rfl ?_
              refine x_getR 4 hM iX7_command_168 fX7_command_19 rfl rfl rfl ?_
              refine am_iload iX7_command_171 rfl ?_
              refine am_iload_n iX7_command_173 rfl rfl ?_
              refine x_iast (401 * p + (e + 1)) hM rfl iX7_command_174 (by first | rfl | simp only [nI_add, pk_mul, nI_1, nL0, nL1, nL2, nL3, nL4, nL10, nL30, nL300, nL401]) (hk3) ?_
              refine am_aload_n iX7_command_175 rfl rfl ?_
              refine x_getR 5 hM iX7_command_176 fX7_command_22 rfl rfl rfl ?_
              refine am_iload iX7_command_179 rfl ?_
              refine am_iload iX7_command_181 rfl ?_
              refine x_iast (401 * p + (e + 1)) hM rfl iX7_command_183 (by first | rfl | simp only [nI_add, pk_mul, nI_1, nL0, nL1, nL2, nL3, nL4, nL10, nL30, nL300, nL401]) (hk3) ?_
              refine am_aload_n iX7_command_184 rfl rfl ?_
              refine x_getR 6 hM iX7_command_185 fX7_command_25 rfl rfl rfl ?_
              refine am_iload iX7_command_188 rfl ?_
              refine am_iload iX7_command_190 rfl ?_
              refine x_iast (401 * p + (e + 1)) hM rfl iX7_command_192 (by first | rfl | simp only [nI_add, pk_mul, nI_1, nL0, nL1, nL2, nL3, nL4, nL10, nL30, nL300, nL401]) (hk3) ?_
              refine am_iconst (i := 0) (v := 0) rfl iX7_command_193 ?_
              refine am_istore_9 iX7_command_194 rfl rfl ?_
              show am_W _ _ _ _ _ (xm m M (x_cmd0 (x_th X 0) p (401 * p + (e + 1)) (nI (e + 1)) kd (nI i) cu am)) _
              have e1 : ∀ q, (x_ndN (x_cmd0 (x_th X 0) p (401 * p + (e + 1)) (nI (e + 1)) kd (nI i) cu am) n (401 * p + (e + 1)) q).1 1 p = nI (e + 1) := by
                intro q
                rw [x_ndN_o _ _ _ (by decide)]
                unfold x_cmd0
                rw [xU_o _ _ (by decide), xU_o _ _ (by decide), xU_o _ _ (by decide), xU_o _ _ (by decide), xU_s]
              unfold x_cmd1 x_cmdT x_cmd2
              generalize x_cmd0 (x_th X 0) p (401 * p + (e + 1)) (nI (e + 1)) kd (nI i) cu am = Z at e1 ⊢
              generalize 401 * p + (e + 1) = k at hk3 e1 ⊢
              have b1 : 3 * n + p < 24 := by omega
              exact x_cmd_loop hM hn hp3 hk3 b1 e1 3 0 rfl _
            · rw [if_pos h4]
              refine am_iconst (i := 3) (v := 3) rfl iX7_command_115 ?_
              refine am_goto iX7_command_116 ?_
              refine x_putI hM iX7_command_120 fX7_command_121 rfl rfl ?_
              refine am_aload_n iX7_command_123 rfl rfl ?_
              refine x_getI hM iX7_command_124 fX7_command_121 ?_
              rw [xU_s]
              refine am_if_le iX7_command_127 (fun hc => absurd hc (by decide)) (fun _ => ?_)
              refine am_lconst (i := 0) (v := 0) rfl iX7_command_130 ?_
              exact am_lret iX7_command_131 rfl (⟨rfl, rfl⟩)
def x_read (X : ms_X) (N : Nat) (k w : Int32) : Int64 × ms_X :=
  if (x_rg k 0 ((N : Int) - 1) && x_rg w 0 5) = true then ((if w = 0 then (X.1 23 (nt k)).toInt64 else if w = 1 then (X.1 31 (nt k)).toInt64 else if w = 2 then X.2 32 (nt k) else if w = 3 then X.2 33 (nt k) else if w = 4 then (X.1 34 (nt k)).toInt64 else (X.1 24 (nt k)).toInt64), x_th X 0) else (0, x_th X 1)
theorem x_sub1' {N : Nat} (h2 : N < 1000) : (nI N - 1).toInt64.toInt = (N : Int) - 1 := by
  rcases Nat.eq_zero_or_pos N with rfl | h
  · decide
  · exact x_sub1 h h2
theorem x_read_ok (hM : LM m M) (hN : x_Rd X N) (k w : Int32) : am_W sc 102 0 [.ref M, .int k, .int w] [] (xm m M X) (am_R1 (some (.long (x_read X N k w).1)) (xm m M (x_read X N k w).2)) := by
  have hN2 := hN.2.1
  unfold x_read
  have bad : am_W sc 102 33 [.ref M, .int k, .int w] [.ref M] (xm m M X) (am_R1 (some (.long 0)) (xm m M (x_th X 1))) := by
    refine am_iconst (i := 1) (v := 1) rfl iX7_read_33 ?_
    refine x_putI hM iX7_read_34 fX7_read_121 rfl rfl ?_
    refine am_aload_n iX7_read_37 rfl rfl ?_
    refine x_getI hM iX7_read_38 fX7_read_121 ?_
    rw [xU_s]
    refine am_if_le iX7_read_41 (fun hc => absurd hc (by decide)) (fun _ => ?_)
    refine am_lconst (i := 0) (v := 0) rfl iX7_read_44 ?_
    exact am_lret iX7_read_45 rfl (⟨rfl, rfl⟩)
  refine am_aload_n iX7_read_0 rfl rfl ?_
  refine am_iload_n iX7_read_1 rfl rfl ?_
  refine am_i2l iX7_read_2 ?_
  refine am_lconst (i := 0) (v := 0) rfl iX7_read_3 ?_
  refine am_aload_n iX7_read_4 rfl rfl ?_
  refine x_getI hM iX7_read_5 fX7_read_204 ?_
  refine am_iconst (i := 1) (v := 1) rfl iX7_read_8 ?_
  refine am_isub iX7_read_9 ?_
  refine am_i2l iX7_read_10 ?_
  refine am_cS3r iX7_read_11 cX7_read_148 mX7_in rfl rfl rfl (x_in _ _ _) ?_
  rw [x_rgL, hN.1, x_sub1' (by omega)]
  show am_W _ _ _ _ (.int (x_b (x_rg k 0 ((N : Int) - 1))) :: _) _ _
  cases hk : x_rg k 0 ((N : Int) - 1)
  · refine am_if_eq iX7_read_14 (fun _ => ?_) (fun hc => absurd (by decide) hc)
    exact bad
  · refine am_if_eq iX7_read_14 (fun hc => absurd hc (by decide)) (fun _ => ?_)
    refine am_iload_n iX7_read_17 rfl rfl ?_
    refine am_i2l iX7_read_18 ?_
    refine am_lconst (i := 0) (v := 0) rfl iX7_read_19 ?_
    refine am_ldc2 (v := 5) (wd_951) iX7_read_20 ?_
    refine am_cS3r iX7_read_23 cX7_read_148 mX7_in rfl rfl rfl (x_in _ _ _) ?_
    rw [x_rgL]
    show am_W _ _ _ _ (.int (x_b (x_rg w 0 5)) :: _) _ _
    cases hw : x_rg w 0 5
    · refine am_if_eq iX7_read_26 (fun _ => ?_) (fun hc => absurd (by decide) hc)
      exact bad
    · refine am_if_eq iX7_read_26 (fun hc => absurd hc (by decide)) (fun _ => ?_)
      obtain ⟨n, hn, hnt, rfl⟩ := x_rg_ex 500 hk (by omega)
      obtain ⟨j, hj, hjt, rfl⟩ := x_rg_ex 6 hw (by omega)
      rw [hnt, if_pos (show (true && true) = true from rfl)]
      refine am_iconst (i := 0) (v := 0) rfl iX7_read_29 ?_
      refine am_goto iX7_read_30 ?_
      refine x_putI hM iX7_read_34 fX7_read_121 rfl rfl ?_
      refine am_aload_n iX7_read_37 rfl rfl ?_
      refine x_getI hM iX7_read_38 fX7_read_121 ?_
      rw [xU_s]
      refine am_if_le iX7_read_41 (fun _ => ?_) (fun hc => absurd (by decide) hc)
      refine am_iload_n iX7_read_46 rfl rfl ?_
      rcases (show j = 0 ∨ j = 1 ∨ j = 2 ∨ j = 3 ∨ j = 4 ∨ j = 5 by omega) with rfl | rfl | rfl | rfl | rfl | rfl
      · refine am_tIn (q := 0) (off := 33) 80 iX7_read_47 (by decide) (by decide) (by decide) (by decide) ?_
        refine am_aload_n iX7_read_80 rfl rfl ?_
        refine x_getR 23 hM iX7_read_81 fX7_read_78 rfl rfl rfl ?_
        refine am_iload_n iX7_read_84 rfl rfl ?_
        refine x_iald (n) hM rfl iX7_read_85 (by first | rfl | simp only [nI_add, pk_mul, nI_1, nL0, nL1, nL2, nL3, nL4, nL10, nL30, nL300, nL401]) (hn) ?_
        refine am_i2l iX7_read_86 ?_
        exact am_lret iX7_read_87 rfl (⟨rfl, rfl⟩)
      · refine am_tIn (q := 0) (off := 41) 88 iX7_read_47 (by decide) (by decide) (by decide) (by decide) ?_
        refine am_aload_n iX7_read_88 rfl rfl ?_
        refine x_getR 31 hM iX7_read_89 fX7_read_102 rfl rfl rfl ?_
        refine am_iload_n iX7_read_92 rfl rfl ?_
        refine x_iald (n) hM rfl iX7_read_93 (by first | rfl | simp only [nI_add, pk_mul, nI_1, nL0, nL1, nL2, nL3, nL4, nL10, nL30, nL300, nL401]) (hn) ?_
        refine am_i2l iX7_read_94 ?_
        exact am_lret iX7_read_95 rfl (⟨rfl, rfl⟩)
      · refine am_tIn (q := 0) (off := 49) 96 iX7_read_47 (by decide) (by decide) (by decide) (by decide) ?_
        refine am_aload_n iX7_read_96 rfl rfl ?_
        refine x_getR 32 hM iX7_read_97 fX7_read_105 rfl rfl rfl ?_
        refine am_iload_n iX7_read_100 rfl rfl ?_
        refine x_lald (n) hM rfl iX7_read_101 (by first | rfl | simp only [nI_add, pk_mul, nI_1, nL0, nL1, nL2, nL3, nL4, nL10, nL30, nL300, nL401]) (hn) ?_
        exact am_lret iX7_read_102 rfl (⟨rfl, rfl⟩)
      · refine am_tIn (q := 0) (off := 56) 103 iX7_read_47 (by decide) (by decide) (by decide) (by decide) ?_
        refine am_aload_n iX7_read_103 rfl rfl ?_
        refine x_getR 33 hM iX7_read_104 fX7_read_108 rfl rfl rfl ?_
        refine am_iload_n iX7_read_107 rfl rfl ?_
        refine x_lald (n) hM rfl iX7_read_108 (by first | rfl | simp only [nI_add, pk_mul, nI_1, nL0, nL1, nL2, nL3, nL4, nL10, nL30, nL300, nL401]) (hn) ?_
        exact am_lret iX7_read_109 rfl (⟨rfl, rfl⟩)
      · refine am_tIn (q := 0) (off := 63) 110 iX7_read_47 (by decide) (by decide) (by decide) (by decide) ?_
        refine am_aload_n iX7_read_110 rfl rfl ?_
        refine x_getR 34 hM iX7_read_111 fX7_read_111 rfl rfl rfl ?_
        refine am_iload_n iX7_read_114 rfl rfl ?_
        refine x_iald (n) hM rfl iX7_read_115 (by first | rfl | simp only [nI_add, pk_mul, nI_1, nL0, nL1, nL2, nL3, nL4, nL10, nL30, nL300, nL401]) (hn) ?_
        refine am_i2l iX7_read_116 ?_
        exact am_lret iX7_read_117 rfl (⟨rfl, rfl⟩)
      · refine am_tOut (q := 0) 118 iX7_read_47 (by decide) (by decide) ?_
        refine am_aload_n iX7_read_118 rfl rfl ?_
        refine x_getR 24 hM iX7_read_119 fX7_read_81 rfl rfl rfl ?_
        refine am_iload_n iX7_read_122 rfl rfl ?_
        refine x_iald (n) hM rfl iX7_read_123 (by first | rfl | simp only [nI_add, pk_mul, nI_1, nL0, nL1, nL2, nL3, nL4, nL10, nL30, nL300, nL401]) (hn) ?_
        refine am_i2l iX7_read_124 ?_
        exact am_lret iX7_read_125 rfl (⟨rfl, rfl⟩)
def x_lgd (X : ms_X) (P : Nat) (p i w : Int32) : Int32 × ms_X :=
  if (x_rg p 0 ((P : Int) - 1) && (x_rg w 0 6 && decide (X.1 2 (nt p) < i ∧ i ≤ X.1 1 (nt p)))) = true then ((if w = 0 then X.1 3 (401 * nt p + nt i) else if w = 1 then X.1 4 (401 * nt p + nt i) else if w = 2 then X.1 5 (401 * nt p + nt i) else if w = 3 then X.1 6 (401 * nt p + nt i) else X.1 7 (3 * (401 * nt p + nt i) + (nt w - 4))), x_th X 0) else (0, x_th X 1)
set_option maxHeartbeats 1000000 in
theorem x_lgd_ok (hM : LM m M) (hP : x_PR X P R) (hE : ∀ p, p < 3 → x_ix (X.1 1 p) 401) (hT : ∀ p, p < 3 → x_ix (X.1 2 p) 401) (p i w : Int32) : am_W sc 107 0 [.ref M, .int p, .int i, .int w, .retAddr 1] [] (xm m M X) (am_R1 (some (.int (x_lgd X P p i w).1)) (xm m M (x_lgd X P p i w).2)) := by
  have hP4 := hP.2.2.2.1
  unfold x_lgd
  have bad : am_W sc 107 45 [.ref M, .int p, .int i, .int w, .retAddr 1] [.ref M] (xm m M X) (am_R1 (some (.int 0)) (xm m M (x_th X 1))) := by
    refine am_iconst (i := 1) (v := 1) rfl iX7_logged_45 ?_
    refine x_putI hM iX7_logged_46 fX7_logged_121 rfl rfl ?_
    refine am_aload_n iX7_logged_49 rfl rfl ?_
    refine x_getI hM iX7_logged_50 fX7_logged_121 ?_
    rw [xU_s]
    refine am_if_le iX7_logged_53 (fun hc => absurd hc (by decide)) (fun _ => ?_)
    refine am_iconst (i := 0) (v := 0) rfl iX7_logged_56 ?_
    exact am_iret iX7_logged_57 rfl (⟨rfl, rfl⟩)
  refine am_aload_n iX7_logged_0 rfl rfl ?_
  refine am_aload_n iX7_logged_1 rfl rfl ?_
  refine am_iload_n iX7_logged_2 rfl rfl ?_
  refine am_cV1r iX7_logged_3 cX7_logged_193 mX7_isPart hM.1 rfl rfl rfl (x_isPart hM hP _) ?_
  cases hp : x_rg p 0 ((P : Int) - 1)
  · refine am_if_eq iX7_logged_6 (fun _ => ?_) (fun hc => absurd (by decide) hc)
    exact bad
  · refine am_if_eq iX7_logged_6 (fun hc => absurd hc (by decide)) (fun _ => ?_)
    refine am_iload_n iX7_logged_9 rfl rfl ?_
    refine am_i2l iX7_logged_10 ?_
    refine am_lconst (i := 0) (v := 0) rfl iX7_logged_11 ?_
    refine am_ldc2 (v := 6) (wd_972) iX7_logged_12 ?_
    refine am_cS3r iX7_logged_15 cX7_logged_148 mX7_in rfl rfl rfl (x_in _ _ _) ?_
    rw [x_rgL]
    show am_W _ _ _ _ (.int (x_b (x_rg w 0 6)) :: _) _ _
    cases hw : x_rg w 0 6
    · refine am_if_eq iX7_logged_18 (fun _ => ?_) (fun hc => absurd (by decide) hc)
      exact bad
    · refine am_if_eq iX7_logged_18 (fun hc => absurd hc (by decide)) (fun _ => ?_)
      obtain ⟨n, hn, hnt, rfl⟩ := x_rg_ex 3 hp (by omega)
      obtain ⟨j, hj, hjt, rfl⟩ := x_rg_ex 7 hw (by omega)
      rw [hnt, hjt]
      refine am_iload_n iX7_logged_21 rfl rfl ?_
      refine am_aload_n iX7_logged_22 rfl rfl ?_
      refine x_getR 2 hM iX7_logged_23 fX7_logged_13 rfl rfl rfl ?_
      refine am_iload_n iX7_logged_26 rfl rfl ?_
      refine x_iald (n) hM rfl iX7_logged_27 (by first | rfl | simp only [nI_add, pk_mul, nI_1, nL0, nL1, nL2, nL3, nL4, nL10, nL30, nL300, nL401]) (hn) ?_
      refine am_icmp_le iX7_logged_28 (fun h1 => ?_) (fun h1 => ?_)
      · rw [if_neg (fun q => absurd (of_decide_eq_true (Bool.and_eq_true _ _ ▸ (Bool.and_eq_true _ _ ▸ q).2).2).1 (Int32.not_lt.mpr h1))]
        exact bad
      · refine am_iload_n iX7_logged_31 rfl rfl ?_
        refine am_aload_n iX7_logged_32 rfl rfl ?_
        refine x_getR 1 hM iX7_logged_33 fX7_logged_7 rfl rfl rfl ?_
        refine am_iload_n iX7_logged_36 rfl rfl ?_
        refine x_iald (n) hM rfl iX7_logged_37 (by first | rfl | simp only [nI_add, pk_mul, nI_1, nL0, nL1, nL2, nL3, nL4, nL10, nL30, nL300, nL401]) (hn) ?_
        refine am_icmp_gt iX7_logged_38 (fun h2 => ?_) (fun h2 => ?_)
        · rw [if_neg (fun q => absurd (of_decide_eq_true (Bool.and_eq_true _ _ ▸ (Bool.and_eq_true _ _ ▸ q).2).2).2 (Int32.not_le.mpr h2))]
          exact bad
        · have h1' := Int32.not_le.mp h1
          have h2' := Int32.not_lt.mp h2
          rw [if_pos (by rw [decide_eq_true ⟨h1', h2'⟩]; rfl)]
          obtain ⟨t, ht, htt, ht2⟩ := x_ix_ex (hT n hn)
          obtain ⟨e, he, het, he2⟩ := x_ix_ex (hE n hn)
          rw [ht2] at h1'
          rw [he2] at h2'
          have h3 : ¬ i < 0 := by
            rw [Int32.lt_iff_toInt_lt, nI_toInt (by omega)] at h1'
            rw [Int32.lt_iff_toInt_lt, Int32.toInt_zero]
            omega
          obtain ⟨c, hc, rfl⟩ := nI_of h3
          have h4 := (nI_leI (by omega) (by omega)).mp h2'
          rw [nt_nI hc]
          have hk : 401 * n + c < 1203 := by omega
          refine am_iconst (i := 0) (v := 0) rfl iX7_logged_41 ?_
          refine am_goto iX7_logged_42 ?_
          refine x_putI hM iX7_logged_46 fX7_logged_121 rfl rfl ?_
          refine am_aload_n iX7_logged_49 rfl rfl ?_
          refine x_getI hM iX7_logged_50 fX7_logged_121 ?_
          rw [xU_s]
          refine am_if_le iX7_logged_53 (fun _ => ?_) (fun hc => absurd (by decide) hc)
          refine am_sipush (i := 401) (v := 401) rfl iX7_logged_58 ?_
          refine am_iload_n iX7_logged_61 rfl rfl ?_
          refine am_imul iX7_logged_62 ?_
          refine am_iload_n iX7_logged_63 rfl rfl ?_
          refine am_iadd iX7_logged_64 ?_
          rw [show (401 : Int32) * nI n + nI c = nI (401 * n + c) by simp only [nI_add, pk_mul, nL401]]
          generalize 401 * n + c = k at hk ⊢
          refine am_istore_4 iX7_logged_65 rfl rfl ?_
          refine am_iload_n iX7_logged_67 rfl rfl ?_
          rcases (show j = 0 ∨ j = 1 ∨ j = 2 ∨ j = 3 ∨ j = 4 ∨ j = 5 ∨ j = 6 by omega) with rfl | rfl | rfl | rfl | rfl | rfl | rfl
          · refine am_tIn (q := 0) (off := 32) 100 iX7_logged_68 (by decide) (by decide) (by decide) (by decide) ?_
            refine am_aload_n iX7_logged_100 rfl rfl ?_
            refine x_getR 3 hM iX7_logged_101 fX7_logged_16 rfl rfl rfl ?_
            refine am_iload iX7_logged_104 rfl ?_
            refine x_iald (k) hM rfl iX7_logged_106 (by first | rfl | simp only [nI_add, pk_mul, nI_1, nL0, nL1, nL2, nL3, nL4, nL10, nL30, nL300, nL401]) (hk) ?_
            exact am_iret iX7_logged_107 rfl (⟨rfl, rfl⟩)
          · refine am_tIn (q := 0) (off := 40) 108 iX7_logged_68 (by decide) (by decide) (by decide) (by decide) ?_
            refine am_aload_n iX7_logged_108 rfl rfl ?_
            refine x_getR 4 hM iX7_logged_109 fX7_logged_19 rfl rfl rfl ?_
            refine am_iload iX7_logged_112 rfl ?_
            refine x_iald (k) hM rfl iX7_logged_114 (by first | rfl | simp only [nI_add, pk_mul, nI_1, nL0, nL1, nL2, nL3, nL4, nL10, nL30, nL300, nL401]) (hk) ?_
            exact am_iret iX7_logged_115 rfl (⟨rfl, rfl⟩)
          · refine am_tIn (q := 0) (off := 48) 116 iX7_logged_68 (by decide) (by decide) (by decide) (by decide) ?_
            refine am_aload_n iX7_logged_116 rfl rfl ?_
            refine x_getR 5 hM iX7_logged_117 fX7_logged_22 rfl rfl rfl ?_
            refine am_iload iX7_logged_120 rfl ?_
            refine x_iald (k) hM rfl iX7_logged_122 (by first | rfl | simp only [nI_add, pk_mul, nI_1, nL0, nL1, nL2, nL3, nL4, nL10, nL30, nL300, nL401]) (hk) ?_
            exact am_iret iX7_logged_123 rfl (⟨rfl, rfl⟩)
          · refine am_tIn (q := 0) (off := 56) 124 iX7_logged_68 (by decide) (by decide) (by decide) (by decide) ?_
            refine am_aload_n iX7_logged_124 rfl rfl ?_
            refine x_getR 6 hM iX7_logged_125 fX7_logged_25 rfl rfl rfl ?_
            refine am_iload iX7_logged_128 rfl ?_
            refine x_iald (k) hM rfl iX7_logged_130 (by first | rfl | simp only [nI_add, pk_mul, nI_1, nL0, nL1, nL2, nL3, nL4, nL10, nL30, nL300, nL401]) (hk) ?_
            exact am_iret iX7_logged_131 rfl (⟨rfl, rfl⟩)
          · refine am_tOut (q := 0) 132 iX7_logged_68 (by decide) (by decide) ?_
            refine am_aload_n iX7_logged_132 rfl rfl ?_
            refine x_getR 7 hM iX7_logged_133 fX7_logged_28 rfl rfl rfl ?_
            refine am_iconst (i := 3) (v := 3) rfl iX7_logged_136 ?_
            refine am_iload iX7_logged_137 rfl ?_
            refine am_imul iX7_logged_139 ?_
            refine am_iload_n iX7_logged_140 rfl rfl ?_
            refine am_iadd iX7_logged_141 ?_
            refine am_iconst (i := 4) (v := 4) rfl iX7_logged_142 ?_
            refine am_isub iX7_logged_143 ?_
            rw [show (3 : Int32) * nI k + nI 4 - 4 = nI (3 * k + 0) by rw [nL3, pk_mul, nI_add, nL4, pk_sub (by omega)]; exact congrArg nI (by omega)]
            refine x_iald (3 * k + 0) hM rfl iX7_logged_144 (by first | rfl | simp only [nI_add, pk_mul, nI_1, nL0, nL1, nL2, nL3, nL4, nL10, nL30, nL300, nL401]) ((show 3 * k + 0 < 3609 by omega)) ?_
            exact am_iret iX7_logged_145 rfl (⟨rfl, rfl⟩)
          · refine am_tOut (q := 0) 132 iX7_logged_68 (by decide) (by decide) ?_
            refine am_aload_n iX7_logged_132 rfl rfl ?_
            refine x_getR 7 hM iX7_logged_133 fX7_logged_28 rfl rfl rfl ?_
            refine am_iconst (i := 3) (v := 3) rfl iX7_logged_136 ?_
            refine am_iload iX7_logged_137 rfl ?_
            refine am_imul iX7_logged_139 ?_
            refine am_iload_n iX7_logged_140 rfl rfl ?_
            refine am_iadd iX7_logged_141 ?_
            refine am_iconst (i := 4) (v := 4) rfl iX7_logged_142 ?_
            refine am_isub iX7_logged_143 ?_
            rw [show (3 : Int32) * nI k + nI 5 - 4 = nI (3 * k + 1) by rw [nL3, pk_mul, nI_add, nL4, pk_sub (by omega)]; exact congrArg nI (by omega)]
            refine x_iald (3 * k + 1) hM rfl iX7_logged_144 (by first | rfl | simp only [nI_add, pk_mul, nI_1, nL0, nL1, nL2, nL3, nL4, nL10, nL30, nL300, nL401]) ((show 3 * k + 1 < 3609 by omega)) ?_
            exact am_iret iX7_logged_145 rfl (⟨rfl, rfl⟩)
          · refine am_tOut (q := 0) 132 iX7_logged_68 (by decide) (by decide) ?_
            refine am_aload_n iX7_logged_132 rfl rfl ?_
            refine x_getR 7 hM iX7_logged_133 fX7_logged_28 rfl rfl rfl ?_
            refine am_iconst (i := 3) (v := 3) rfl iX7_logged_136 ?_
            refine am_iload iX7_logged_137 rfl ?_
            refine am_imul iX7_logged_139 ?_
            refine am_iload_n iX7_logged_140 rfl rfl ?_
            refine am_iadd iX7_logged_141 ?_
            refine am_iconst (i := 4) (v := 4) rfl iX7_logged_142 ?_
            refine am_isub iX7_logged_143 ?_
            rw [show (3 : Int32) * nI k + nI 6 - 4 = nI (3 * k + 2) by rw [nL3, pk_mul, nI_add, nL4, pk_sub (by omega)]; exact congrArg nI (by omega)]
            refine x_iald (3 * k + 2) hM rfl iX7_logged_144 (by first | rfl | simp only [nI_add, pk_mul, nI_1, nL0, nL1, nL2, nL3, nL4, nL10, nL30, nL300, nL401]) ((show 3 * k + 2 < 3609 by omega)) ?_
            exact am_iret iX7_logged_145 rfl (⟨rfl, rfl⟩)
def x_cnt (X : ms_X) (N : Nat) (w : Int32) : Int32 × ms_X := if x_rg w 0 4 = true then ((if w = 0 then X.1 0 26 else if w = 4 then X.1 0 3 else nI (x_wtN X (w - 1) N)), x_th X 0) else (0, x_th X 1)
theorem x_cnt_ok (hM : LM m M) (hN : x_Rd X N) (w : Int32) : am_W sc 110 0 [.ref M, .int w, .retAddr 1, .retAddr 1] [] (xm m M X) (am_R1 (some (.int (x_cnt X N w).1)) (xm m M (x_cnt X N w).2)) := by
  have hN2 := hN.2.1
  unfold x_cnt
  refine am_aload_n iX7_count_0 rfl rfl ?_
  refine am_iload_n iX7_count_1 rfl rfl ?_
  refine am_i2l iX7_count_2 ?_
  refine am_lconst (i := 0) (v := 0) rfl iX7_count_3 ?_
  refine am_ldc2 (v := 4) (wd_859) iX7_count_4 ?_
  refine am_cS3r iX7_count_7 cX7_count_148 mX7_in rfl rfl rfl (x_in _ _ _) ?_
  rw [x_rgL]
  show am_W _ _ _ _ (.int (x_b (x_rg w 0 4)) :: _) _ _
  cases hw : x_rg w 0 4
  · refine am_if_eq iX7_count_10 (fun _ => ?_) (fun hc => absurd (by decide) hc)
    refine am_iconst (i := 1) (v := 1) rfl iX7_count_17 ?_
    refine x_putI hM iX7_count_18 fX7_count_121 rfl rfl ?_
    refine am_aload_n iX7_count_21 rfl rfl ?_
    refine x_getI hM iX7_count_22 fX7_count_121 ?_
    rw [xU_s]
    refine am_if_le iX7_count_25 (fun hc => absurd hc (by decide)) (fun _ => ?_)
    refine am_iconst (i := 0) (v := 0) rfl iX7_count_28 ?_
    exact am_iret iX7_count_29 rfl (⟨rfl, rfl⟩)
  · refine am_if_eq iX7_count_10 (fun hc => absurd hc (by decide)) (fun _ => ?_)
    rw [if_pos rfl]
    refine am_iconst (i := 0) (v := 0) rfl iX7_count_13 ?_
    refine am_goto iX7_count_14 ?_
    refine x_putI hM iX7_count_18 fX7_count_121 rfl rfl ?_
    refine am_aload_n iX7_count_21 rfl rfl ?_
    refine x_getI hM iX7_count_22 fX7_count_121 ?_
    rw [xU_s]
    refine am_if_le iX7_count_25 (fun _ => ?_) (fun hc => absurd (by decide) hc)
    refine am_iload_n iX7_count_30 rfl rfl ?_
    refine am_if_eq iX7_count_31 (fun h1 => ?_) (fun h1 => ?_)
    · subst h1
      refine am_iload_n iX7_count_39 rfl rfl ?_
      refine am_if_ne iX7_count_40 (fun hc => absurd (rfl) hc) (fun _ => ?_)
      refine am_aload_n iX7_count_43 rfl rfl ?_
      refine x_getI hM iX7_count_44 fX7_count_204 ?_
      refine am_goto iX7_count_47 ?_
      exact am_iret iX7_count_54 rfl (⟨rfl, rfl⟩)
    · rw [if_neg h1]
      refine am_iload_n iX7_count_34 rfl rfl ?_
      refine am_iconst (i := 4) (v := 4) rfl iX7_count_35 ?_
      refine am_icmp_ne iX7_count_36 (fun h2 => ?_) (fun h2 => ?_)
      · rw [if_neg h2]
        have key : ∀ d k : Nat, k + d = N → am_W sc 110 59 [.ref M, .int w, .int (nI (x_wtN X (w - 1) k)), .int (nI k)] [] (xm m M (x_th X 0)) (am_R1 (some (.int (nI (x_wtN X (w - 1) N)))) (xm m M (x_th X 0))) := by
          intro d
          induction d with
          | zero =>
            intro k hk
            have e : k = N := by omega
            subst e
            refine am_iload_n iX7_count_59 rfl rfl ?_
            refine am_aload_n iX7_count_60 rfl rfl ?_
            refine x_getI hM iX7_count_61 fX7_count_204 ?_
            rw [show (x_th X 0).1 0 26 = nI k from hN.1]
            refine am_icmp_ge iX7_count_64 (fun _ => ?_) (fun hc => absurd (nI_le (Nat.le_refl _) (by omega)) hc)
            refine am_iload_n iX7_count_93 rfl rfl ?_
            exact am_iret iX7_count_94 rfl (⟨rfl, rfl⟩)
          | succ d ih =>
            intro k hk
            refine am_iload_n iX7_count_59 rfl rfl ?_
            refine am_aload_n iX7_count_60 rfl rfl ?_
            refine x_getI hM iX7_count_61 fX7_count_204 ?_
            rw [show (x_th X 0).1 0 26 = nI N from hN.1]
            refine am_icmp_ge iX7_count_64 (fun hc => absurd hc (fun q => absurd ((nI_leI (by omega) (by omega)).mp q) (by omega))) (fun _ => ?_)
            have e1 : x_wtN X (w - 1) (k + 1) = x_wtN X (w - 1) k + (if X.1 23 k = w - 1 then 1 else 0) := rfl
            refine am_iload_n iX7_count_67 rfl rfl ?_
            refine am_aload_n iX7_count_68 rfl rfl ?_
            refine x_getR 23 hM iX7_count_69 fX7_count_78 rfl rfl rfl ?_
            refine am_iload_n iX7_count_72 rfl rfl ?_
            refine x_iald (k) hM rfl iX7_count_73 (by first | rfl | simp only [nI_add, pk_mul, nI_1, nL0, nL1, nL2, nL3, nL4, nL10, nL30, nL300, nL401]) ((show k < 500 by omega)) ?_
            refine am_iload_n iX7_count_74 rfl rfl ?_
            refine am_iconst (i := 1) (v := 1) rfl iX7_count_75 ?_
            refine am_isub iX7_count_76 ?_
            refine am_icmp_ne iX7_count_77 (fun h3 => ?_) (fun h3 => ?_)
            · rw [if_neg (show ¬ X.1 23 k = w - 1 from h3)] at e1
              refine am_iconst (i := 0) (v := 0) rfl iX7_count_84 ?_
              refine am_iadd iX7_count_85 ?_
              refine am_istore_n_2 iX7_count_86 rfl rfl ?_
              refine am_iinc_3 1 iX7_count_87 rfl rfl rfl ?_
              refine am_goto iX7_count_90 ?_
              rw [Int32.add_zero, nI_1]
              have := ih (k + 1) (by omega)
              rw [e1] at this
              exact this
            · rw [if_pos (show X.1 23 k = w - 1 from h3)] at e1
              refine am_iconst (i := 1) (v := 1) rfl iX7_count_80 ?_
              refine am_goto iX7_count_81 ?_
              refine am_iadd iX7_count_85 ?_
              refine am_istore_n_2 iX7_count_86 rfl rfl ?_
              refine am_iinc_3 1 iX7_count_87 rfl rfl rfl ?_
              refine am_goto iX7_count_90 ?_
              rw [nI_1, nI_1, ← e1]
              exact ih (k + 1) (by omega)
        refine am_iconst (i := 0) (v := 0) rfl iX7_count_55 ?_
        refine am_istore_n_2 iX7_count_56 rfl rfl ?_
        refine am_iconst (i := 0) (v := 0) rfl iX7_count_57 ?_
        refine am_istore_n_3 iX7_count_58 rfl rfl ?_
        exact key N 0 (by omega)
      · rw [if_pos h2]
        refine am_iload_n iX7_count_39 rfl rfl ?_
        refine am_if_ne iX7_count_40 (fun _ => ?_) (fun hc => absurd hc (h1))
        refine am_aload_n iX7_count_50 rfl rfl ?_
        refine x_getI hM iX7_count_51 fX7_count_201 ?_
        exact am_iret iX7_count_54 rfl (⟨rfl, rfl⟩)
end
