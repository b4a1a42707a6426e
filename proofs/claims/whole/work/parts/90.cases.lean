/-! the cases of the law -/
section
variable {sc : Nat × (Nat → Int32)} {mm : am_Mem} {X : ms_X} {P R N T M O C i : Nat} {Q : am_Out → am_Mem → Prop} {w5 w6 w7 : Value}
theorem SVN.k1 (h : SVN mm M O X P R N T C) : am_K mm 1 = 6 := by
  obtain ⟨m, G, E, rfl, hI, hR⟩ := h
  rw [← hR.1]
  exact y_K hI.1 hI.1.2.1 rfl rfl
theorem law_c0 (hS : SVN mm M O X P R N T C) (hC : C ≤ 512) (hT : T + 100 ≤ 1000000) (hx1 : vp_in (nI i + 1) sc.1) (hx2 : vp_in (nI i + 2) sc.1) (hx3 : vp_in (nI i + 3) sc.1) (hx4 : vp_in (nI i + 4) sc.1) (hx5 : vp_in (nI i + 5) sc.1) (hx6 : vp_in (nI i + 6) sc.1) (hx7 : vp_in (nI i + 7) sc.1) (nx : ∀ (mm' : am_Mem) (X' : ms_X) (N' : Nat) (w5 w6 w7 : Value), SVN mm' M O X' P R N' (T + 100) (C + 1) → am_W sc 131 1621 [.retAddr 0, .ref 1, .ref M, .ref O, .int (nI i), w5, w6, w7] [] mm' Q) : am_W sc 131 156 [.retAddr 0, .ref 1, .ref M, .ref O, .int (nI i), w5, w6, w7] [] mm Q := by
  have hW := hS.wf
  have hr2 := hS.r2
  refine am_aload_n iL_law_156 rfl rfl ?_
  refine am_sload_n iL_law_157 rfl rfl ?_
  refine am_iload iL_law_158 rfl ?_
  refine am_iconst (i := 1) (v := 1) rfl iL_law_160 ?_
  refine am_iadd iL_law_161 ?_
  refine am_sld iL_law_162 hx1 ?_
  refine am_sload_n iL_law_163 rfl rfl ?_
  refine am_iload iL_law_164 rfl ?_
  refine am_iconst (i := 2) (v := 2) rfl iL_law_166 ?_
  refine am_iadd iL_law_167 ?_
  refine am_sld iL_law_168 hx2 ?_
  refine am_aload_n iL_law_169 rfl rfl ?_
  refine am_eS4r iL_law_170 cL_law_93 mL_mode rfl rfl rfl (H_mode hS hC hT _ _) ?_
  intro mm1 h1
  obtain ⟨m', rfl, hM⟩ := h1.ref
  have h2 := h1.fin
  refine am_istore_5 iL_law_173 rfl rfl ?_
  refine am_aload_n iL_law_175 rfl rfl ?_
  refine am_sload_n iL_law_176 rfl rfl ?_
  refine am_iload iL_law_177 rfl ?_
  refine am_iconst (i := 1) (v := 1) rfl iL_law_179 ?_
  refine am_iadd iL_law_180 ?_
  refine am_sld iL_law_181 hx1 ?_
  refine am_sload_n iL_law_182 rfl rfl ?_
  refine am_iload iL_law_183 rfl ?_
  refine am_iconst (i := 2) (v := 2) rfl iL_law_185 ?_
  refine am_iadd iL_law_186 ?_
  refine am_sld iL_law_187 hx2 ?_
  refine am_cV2r iL_law_188 cL_law_96 mX7_mode hM.1 rfl rfl rfl (x_mode_ok hM hW _ _) ?_
  refine am_istore_6 iL_law_191 rfl rfl ?_
  refine am_aload_n iL_law_193 rfl rfl ?_
  refine am_cV0r iL_law_194 cL_law_97 mX7_thrown hM.1 rfl rfl rfl (x_thrown hM) ?_
  refine am_iload iL_law_197 rfl ?_
  refine am_icmp_eq iL_law_199 (fun _ => ?_) (fun hc => absurd rfl hc)
  obtain ⟨⟨N', hS'⟩, hK, hL, hJ⟩ := h2
  refine am_iload iL_law_204 rfl ?_
  refine am_if_ne iL_law_206 (fun _ => ?_) (fun hc => ?_)
  · refine am_goto iL_law_221 ?_
    exact nx _ _ _ _ _ _ hS'
  · refine am_aload_n iL_law_209 rfl rfl ?_
    refine am_iconst (i := 0) (v := 0) rfl iL_law_210 ?_
    refine am_lald iL_law_211 hK (by rw [hL]; exact vp_in_nI (n := 0) (N := 1) (by decide) (by decide)) ?_
    show am_W _ _ _ _ (.long (am_J _ O 0) :: _) _ _
    rw [hJ hc]
    refine am_iload iL_law_212 rfl ?_
    refine am_i2l iL_law_214 ?_
    refine am_lcmp iL_law_215 ?_
    rw [lg_self]
    refine am_if_eq iL_law_216 (fun _ => ?_) (fun hc => absurd rfl hc)
    refine am_goto iL_law_221 ?_
    exact nx _ _ _ _ _ _ hS'
theorem law_c1 (hS : SVN mm M O X P R N T C) (hC : C ≤ 512) (hT : T + 100 ≤ 1000000) (hx1 : vp_in (nI i + 1) sc.1) (hx2 : vp_in (nI i + 2) sc.1) (hx3 : vp_in (nI i + 3) sc.1) (hx4 : vp_in (nI i + 4) sc.1) (hx5 : vp_in (nI i + 5) sc.1) (hx6 : vp_in (nI i + 6) sc.1) (hx7 : vp_in (nI i + 7) sc.1) (nx : ∀ (mm' : am_Mem) (X' : ms_X) (N' : Nat) (w5 w6 w7 : Value), SVN mm' M O X' P R N' (T + 100) (C + 1) → am_W sc 131 1621 [.retAddr 0, .ref 1, .ref M, .ref O, .int (nI i), w5, w6, w7] [] mm' Q) : am_W sc 131 224 [.retAddr 0, .ref 1, .ref M, .ref O, .int (nI i), w5, w6, w7] [] mm Q := by
  have hW := hS.wf
  have hr2 := hS.r2
  refine am_aload_n iL_law_224 rfl rfl ?_
  refine am_sload_n iL_law_225 rfl rfl ?_
  refine am_iload iL_law_226 rfl ?_
  refine am_iconst (i := 1) (v := 1) rfl iL_law_228 ?_
  refine am_iadd iL_law_229 ?_
  refine am_sld iL_law_230 hx1 ?_
  refine am_sload_n iL_law_231 rfl rfl ?_
  refine am_iload iL_law_232 rfl ?_
  refine am_iconst (i := 2) (v := 2) rfl iL_law_234 ?_
  refine am_iadd iL_law_235 ?_
  refine am_sld iL_law_236 hx2 ?_
  refine am_aload_n iL_law_237 rfl rfl ?_
  refine am_eS4r iL_law_238 cL_law_101 mL_home rfl rfl rfl (H_home hS hC hT _ _) ?_
  intro mm1 h1
  obtain ⟨m', rfl, hM⟩ := h1.ref
  have h2 := h1.fin
  refine am_istore_5 iL_law_241 rfl rfl ?_
  refine am_aload_n iL_law_243 rfl rfl ?_
  refine am_sload_n iL_law_244 rfl rfl ?_
  refine am_iload iL_law_245 rfl ?_
  refine am_iconst (i := 1) (v := 1) rfl iL_law_247 ?_
  refine am_iadd iL_law_248 ?_
  refine am_sld iL_law_249 hx1 ?_
  refine am_sload_n iL_law_250 rfl rfl ?_
  refine am_iload iL_law_251 rfl ?_
  refine am_iconst (i := 2) (v := 2) rfl iL_law_253 ?_
  refine am_iadd iL_law_254 ?_
  refine am_sld iL_law_255 hx2 ?_
  refine am_cV2r iL_law_256 cL_law_103 mX7_home hM.1 rfl rfl rfl (x_home_ok hM hW.1 _ _) ?_
  refine am_istore_6 iL_law_259 rfl rfl ?_
  refine am_aload_n iL_law_261 rfl rfl ?_
  refine am_cV0r iL_law_262 cL_law_97 mX7_thrown hM.1 rfl rfl rfl (x_thrown hM) ?_
  refine am_iload iL_law_265 rfl ?_
  refine am_icmp_eq iL_law_267 (fun _ => ?_) (fun hc => absurd rfl hc)
  obtain ⟨⟨N', hS'⟩, hK, hL, hJ⟩ := h2
  refine am_iload iL_law_272 rfl ?_
  refine am_if_ne iL_law_274 (fun _ => ?_) (fun hc => ?_)
  · refine am_goto iL_law_289 ?_
    exact nx _ _ _ _ _ _ hS'
  · refine am_aload_n iL_law_277 rfl rfl ?_
    refine am_iconst (i := 0) (v := 0) rfl iL_law_278 ?_
    refine am_lald iL_law_279 hK (by rw [hL]; exact vp_in_nI (n := 0) (N := 1) (by decide) (by decide)) ?_
    show am_W _ _ _ _ (.long (am_J _ O 0) :: _) _ _
    rw [hJ hc]
    refine am_iload iL_law_280 rfl ?_
    refine am_i2l iL_law_282 ?_
    refine am_lcmp iL_law_283 ?_
    rw [lg_self]
    refine am_if_eq iL_law_284 (fun _ => ?_) (fun hc => absurd rfl hc)
    refine am_goto iL_law_289 ?_
    exact nx _ _ _ _ _ _ hS'
theorem law_c2 (hS : SVN mm M O X P R N T C) (hC : C ≤ 512) (hT : T + 100 ≤ 1000000) (hx1 : vp_in (nI i + 1) sc.1) (hx2 : vp_in (nI i + 2) sc.1) (hx3 : vp_in (nI i + 3) sc.1) (hx4 : vp_in (nI i + 4) sc.1) (hx5 : vp_in (nI i + 5) sc.1) (hx6 : vp_in (nI i + 6) sc.1) (hx7 : vp_in (nI i + 7) sc.1) (nx : ∀ (mm' : am_Mem) (X' : ms_X) (N' : Nat) (w5 w6 w7 : Value), SVN mm' M O X' P R N' (T + 100) (C + 1) → am_W sc 131 1621 [.retAddr 0, .ref 1, .ref M, .ref O, .int (nI i), w5, w6, w7] [] mm' Q) : am_W sc 131 292 [.retAddr 0, .ref 1, .ref M, .ref O, .int (nI i), w5, w6, w7] [] mm Q := by
  have hW := hS.wf
  have hr2 := hS.r2
  refine am_aload_n iL_law_292 rfl rfl ?_
  refine am_sload_n iL_law_293 rfl rfl ?_
  refine am_iload iL_law_294 rfl ?_
  refine am_iconst (i := 1) (v := 1) rfl iL_law_296 ?_
  refine am_iadd iL_law_297 ?_
  refine am_sld iL_law_298 hx1 ?_
  refine am_sload_n iL_law_299 rfl rfl ?_
  refine am_iload iL_law_300 rfl ?_
  refine am_iconst (i := 2) (v := 2) rfl iL_law_302 ?_
  refine am_iadd iL_law_303 ?_
  refine am_sld iL_law_304 hx2 ?_
  refine am_sload_n iL_law_305 rfl rfl ?_
  refine am_iload iL_law_306 rfl ?_
  refine am_iconst (i := 3) (v := 3) rfl iL_law_308 ?_
  refine am_iadd iL_law_309 ?_
  refine am_sld iL_law_310 hx3 ?_
  refine am_sload_n iL_law_311 rfl rfl ?_
  refine am_iload iL_law_312 rfl ?_
  refine am_iconst (i := 4) (v := 4) rfl iL_law_314 ?_
  refine am_iadd iL_law_315 ?_
  refine am_sld iL_law_316 hx4 ?_
  refine am_sload_n iL_law_317 rfl rfl ?_
  refine am_iload iL_law_318 rfl ?_
  refine am_iconst (i := 5) (v := 5) rfl iL_law_320 ?_
  refine am_iadd iL_law_321 ?_
  refine am_sld iL_law_322 hx5 ?_
  refine am_aload_n iL_law_323 rfl rfl ?_
  refine am_eS7r iL_law_324 cL_law_104 mL_command rfl rfl rfl (H_command hS hC hT _ _ _ _ _) ?_
  intro mm1 h1
  obtain ⟨m', rfl, hM⟩ := h1.ref
  have h2 := h1.fin
  refine am_istore_5 iL_law_327 rfl rfl ?_
  refine am_aload_n iL_law_329 rfl rfl ?_
  refine am_sload_n iL_law_330 rfl rfl ?_
  refine am_iload iL_law_331 rfl ?_
  refine am_iconst (i := 1) (v := 1) rfl iL_law_333 ?_
  refine am_iadd iL_law_334 ?_
  refine am_sld iL_law_335 hx1 ?_
  refine am_sload_n iL_law_336 rfl rfl ?_
  refine am_iload iL_law_337 rfl ?_
  refine am_iconst (i := 2) (v := 2) rfl iL_law_339 ?_
  refine am_iadd iL_law_340 ?_
  refine am_sld iL_law_341 hx2 ?_
  refine am_sload_n iL_law_342 rfl rfl ?_
  refine am_iload iL_law_343 rfl ?_
  refine am_iconst (i := 3) (v := 3) rfl iL_law_345 ?_
  refine am_iadd iL_law_346 ?_
  refine am_sld iL_law_347 hx3 ?_
  refine am_sload_n iL_law_348 rfl rfl ?_
  refine am_iload iL_law_349 rfl ?_
  refine am_iconst (i := 4) (v := 4) rfl iL_law_351 ?_
  refine am_iadd iL_law_352 ?_
  refine am_sld iL_law_353 hx4 ?_
  refine am_sload_n iL_law_354 rfl rfl ?_
  refine am_iload iL_law_355 rfl ?_
  refine am_iconst (i := 5) (v := 5) rfl iL_law_357 ?_
  refine am_iadd iL_law_358 ?_
  refine am_sld iL_law_359 hx5 ?_
  refine am_cV5r iL_law_360 cL_law_107 mX7_command hM.1 rfl rfl rfl (x_cmd_ok hM hW.1 hW.2.2.1 _ _ _ _ _) ?_
  refine am_lstore_6 iL_law_363 rfl rfl ?_
  refine am_aload_n iL_law_365 rfl rfl ?_
  refine am_cV0r iL_law_366 cL_law_97 mX7_thrown hM.1 rfl rfl rfl (x_thrown hM) ?_
  refine am_iload iL_law_369 rfl ?_
  refine am_icmp_eq iL_law_371 (fun _ => ?_) (fun hc => absurd rfl hc)
  obtain ⟨⟨N', hS'⟩, hK, hL, hJ⟩ := h2
  refine am_iload iL_law_376 rfl ?_
  refine am_if_ne iL_law_378 (fun _ => ?_) (fun hc => ?_)
  · refine am_goto iL_law_392 ?_
    exact nx _ _ _ _ _ _ hS'
  · refine am_aload_n iL_law_381 rfl rfl ?_
    refine am_iconst (i := 0) (v := 0) rfl iL_law_382 ?_
    refine am_lald iL_law_383 hK (by rw [hL]; exact vp_in_nI (n := 0) (N := 1) (by decide) (by decide)) ?_
    show am_W _ _ _ _ (.long (am_J _ O 0) :: _) _ _
    rw [hJ hc]
    refine am_lload iL_law_384 rfl ?_
    refine am_lcmp iL_law_386 ?_
    rw [lg_self]
    refine am_if_eq iL_law_387 (fun _ => ?_) (fun hc => absurd rfl hc)
    refine am_goto iL_law_392 ?_
    exact nx _ _ _ _ _ _ hS'
theorem law_c3 (hS : SVN mm M O X P R N T C) (hC : C ≤ 512) (hT : T + 100 ≤ 1000000) (hx1 : vp_in (nI i + 1) sc.1) (hx2 : vp_in (nI i + 2) sc.1) (hx3 : vp_in (nI i + 3) sc.1) (hx4 : vp_in (nI i + 4) sc.1) (hx5 : vp_in (nI i + 5) sc.1) (hx6 : vp_in (nI i + 6) sc.1) (hx7 : vp_in (nI i + 7) sc.1) (nx : ∀ (mm' : am_Mem) (X' : ms_X) (N' : Nat) (w5 w6 w7 : Value), SVN mm' M O X' P R N' (T + 100) (C + 1) → am_W sc 131 1621 [.retAddr 0, .ref 1, .ref M, .ref O, .int (nI i), w5, w6, w7] [] mm' Q) : am_W sc 131 395 [.retAddr 0, .ref 1, .ref M, .ref O, .int (nI i), w5, w6, w7] [] mm Q := by
  have hW := hS.wf
  have hr2 := hS.r2
  refine am_aload_n iL_law_395 rfl rfl ?_
  refine am_sload_n iL_law_396 rfl rfl ?_
  refine am_iload iL_law_397 rfl ?_
  refine am_iconst (i := 1) (v := 1) rfl iL_law_399 ?_
  refine am_iadd iL_law_400 ?_
  refine am_sld iL_law_401 hx1 ?_
  refine am_sload_n iL_law_402 rfl rfl ?_
  refine am_iload iL_law_403 rfl ?_
  refine am_iconst (i := 2) (v := 2) rfl iL_law_405 ?_
  refine am_iadd iL_law_406 ?_
  refine am_sld iL_law_407 hx2 ?_
  refine am_aload_n iL_law_408 rfl rfl ?_
  refine am_eS4r iL_law_409 cL_law_108 mL_step rfl rfl rfl (H_step hS hC hT _ _) ?_
  intro mm1 h1
  obtain ⟨m', rfl, hM⟩ := h1.ref
  have h2 := h1.fin
  refine am_istore_5 iL_law_412 rfl rfl ?_
  refine am_aload_n iL_law_414 rfl rfl ?_
  refine am_sload_n iL_law_415 rfl rfl ?_
  refine am_iload iL_law_416 rfl ?_
  refine am_iconst (i := 1) (v := 1) rfl iL_law_418 ?_
  refine am_iadd iL_law_419 ?_
  refine am_sld iL_law_420 hx1 ?_
  refine am_sload_n iL_law_421 rfl rfl ?_
  refine am_iload iL_law_422 rfl ?_
  refine am_iconst (i := 2) (v := 2) rfl iL_law_424 ?_
  refine am_iadd iL_law_425 ?_
  refine am_sld iL_law_426 hx2 ?_
  refine am_cV2r iL_law_427 cL_law_110 mX7_step hM.1 rfl rfl rfl (x_step_ok hM hW _ _) ?_
  refine am_istore_6 iL_law_430 rfl rfl ?_
  refine am_aload_n iL_law_432 rfl rfl ?_
  refine am_cV0r iL_law_433 cL_law_97 mX7_thrown hM.1 rfl rfl rfl (x_thrown hM) ?_
  refine am_iload iL_law_436 rfl ?_
  refine am_icmp_eq iL_law_438 (fun _ => ?_) (fun hc => absurd rfl hc)
  obtain ⟨⟨N', hS'⟩, hK, hL, hJ⟩ := h2
  refine am_iload iL_law_443 rfl ?_
  refine am_if_ne iL_law_445 (fun _ => ?_) (fun hc => ?_)
  · refine am_goto iL_law_460 ?_
    exact nx _ _ _ _ _ _ hS'
  · refine am_aload_n iL_law_448 rfl rfl ?_
    refine am_iconst (i := 0) (v := 0) rfl iL_law_449 ?_
    refine am_lald iL_law_450 hK (by rw [hL]; exact vp_in_nI (n := 0) (N := 1) (by decide) (by decide)) ?_
    show am_W _ _ _ _ (.long (am_J _ O 0) :: _) _ _
    rw [hJ hc]
    refine am_iload iL_law_451 rfl ?_
    refine am_i2l iL_law_453 ?_
    refine am_lcmp iL_law_454 ?_
    rw [lg_self]
    refine am_if_eq iL_law_455 (fun _ => ?_) (fun hc => absurd rfl hc)
    refine am_goto iL_law_460 ?_
    exact nx _ _ _ _ _ _ hS'
theorem law_c4 (hS : SVN mm M O X P R N T C) (hC : C ≤ 512) (hT : T + 100 ≤ 1000000) (hx1 : vp_in (nI i + 1) sc.1) (hx2 : vp_in (nI i + 2) sc.1) (hx3 : vp_in (nI i + 3) sc.1) (hx4 : vp_in (nI i + 4) sc.1) (hx5 : vp_in (nI i + 5) sc.1) (hx6 : vp_in (nI i + 6) sc.1) (hx7 : vp_in (nI i + 7) sc.1) (nx : ∀ (mm' : am_Mem) (X' : ms_X) (N' : Nat) (w5 w6 w7 : Value), SVN mm' M O X' P R N' (T + 100) (C + 1) → am_W sc 131 1621 [.retAddr 0, .ref 1, .ref M, .ref O, .int (nI i), w5, w6, w7] [] mm' Q) : am_W sc 131 463 [.retAddr 0, .ref 1, .ref M, .ref O, .int (nI i), w5, w6, w7] [] mm Q := by
  have hW := hS.wf
  have hr2 := hS.r2
  refine am_aload_n iL_law_463 rfl rfl ?_
  refine am_sload_n iL_law_464 rfl rfl ?_
  refine am_iload iL_law_465 rfl ?_
  refine am_iconst (i := 1) (v := 1) rfl iL_law_467 ?_
  refine am_iadd iL_law_468 ?_
  refine am_sld iL_law_469 hx1 ?_
  refine am_sload_n iL_law_470 rfl rfl ?_
  refine am_iload iL_law_471 rfl ?_
  refine am_iconst (i := 2) (v := 2) rfl iL_law_473 ?_
  refine am_iadd iL_law_474 ?_
  refine am_sld iL_law_475 hx2 ?_
  refine am_aload_n iL_law_476 rfl rfl ?_
  refine am_eS4r iL_law_477 cL_law_111 mL_speed rfl rfl rfl (H_speed hS hC hT _ _) ?_
  intro mm1 h1
  obtain ⟨m', rfl, hM⟩ := h1.ref
  have h2 := h1.fin
  refine am_istore_5 iL_law_480 rfl rfl ?_
  refine am_aload_n iL_law_482 rfl rfl ?_
  refine am_sload_n iL_law_483 rfl rfl ?_
  refine am_iload iL_law_484 rfl ?_
  refine am_iconst (i := 1) (v := 1) rfl iL_law_486 ?_
  refine am_iadd iL_law_487 ?_
  refine am_sld iL_law_488 hx1 ?_
  refine am_sload_n iL_law_489 rfl rfl ?_
  refine am_iload iL_law_490 rfl ?_
  refine am_iconst (i := 2) (v := 2) rfl iL_law_492 ?_
  refine am_iadd iL_law_493 ?_
  refine am_sld iL_law_494 hx2 ?_
  refine am_cV2r iL_law_495 cL_law_113 mX7_speed hM.1 rfl rfl rfl (x_speed_ok hM hW.1 _ _) ?_
  refine am_istore_6 iL_law_498 rfl rfl ?_
  refine am_aload_n iL_law_500 rfl rfl ?_
  refine am_cV0r iL_law_501 cL_law_97 mX7_thrown hM.1 rfl rfl rfl (x_thrown hM) ?_
  refine am_iload iL_law_504 rfl ?_
  refine am_icmp_eq iL_law_506 (fun _ => ?_) (fun hc => absurd rfl hc)
  obtain ⟨⟨N', hS'⟩, hK, hL, hJ⟩ := h2
  refine am_iload iL_law_511 rfl ?_
  refine am_if_ne iL_law_513 (fun _ => ?_) (fun hc => ?_)
  · refine am_goto iL_law_528 ?_
    exact nx _ _ _ _ _ _ hS'
  · refine am_aload_n iL_law_516 rfl rfl ?_
    refine am_iconst (i := 0) (v := 0) rfl iL_law_517 ?_
    refine am_lald iL_law_518 hK (by rw [hL]; exact vp_in_nI (n := 0) (N := 1) (by decide) (by decide)) ?_
    show am_W _ _ _ _ (.long (am_J _ O 0) :: _) _ _
    rw [hJ hc]
    refine am_iload iL_law_519 rfl ?_
    refine am_i2l iL_law_521 ?_
    refine am_lcmp iL_law_522 ?_
    rw [lg_self]
    refine am_if_eq iL_law_523 (fun _ => ?_) (fun hc => absurd rfl hc)
    refine am_goto iL_law_528 ?_
    exact nx _ _ _ _ _ _ hS'
theorem law_c5 (hS : SVN mm M O X P R N T C) (hC : C ≤ 512) (hT : T + 100 ≤ 1000000) (hx1 : vp_in (nI i + 1) sc.1) (hx2 : vp_in (nI i + 2) sc.1) (hx3 : vp_in (nI i + 3) sc.1) (hx4 : vp_in (nI i + 4) sc.1) (hx5 : vp_in (nI i + 5) sc.1) (hx6 : vp_in (nI i + 6) sc.1) (hx7 : vp_in (nI i + 7) sc.1) (nx : ∀ (mm' : am_Mem) (X' : ms_X) (N' : Nat) (w5 w6 w7 : Value), SVN mm' M O X' P R N' (T + 100) (C + 1) → am_W sc 131 1621 [.retAddr 0, .ref 1, .ref M, .ref O, .int (nI i), w5, w6, w7] [] mm' Q) : am_W sc 131 531 [.retAddr 0, .ref 1, .ref M, .ref O, .int (nI i), w5, w6, w7] [] mm Q := by
  have hW := hS.wf
  have hr2 := hS.r2
  refine am_aload_n iL_law_531 rfl rfl ?_
  refine am_sload_n iL_law_532 rfl rfl ?_
  refine am_iload iL_law_533 rfl ?_
  refine am_iconst (i := 1) (v := 1) rfl iL_law_535 ?_
  refine am_iadd iL_law_536 ?_
  refine am_sld iL_law_537 hx1 ?_
  refine am_aload_n iL_law_538 rfl rfl ?_
  refine am_eS3r iL_law_539 cL_law_114 mL_ticks rfl rfl rfl (H_ticks hS hC hT _) ?_
  intro mm1 h1
  obtain ⟨m', rfl, hM⟩ := h1.ref
  have h2 := h1.fin
  refine am_istore_5 iL_law_542 rfl rfl ?_
  refine am_aload_n iL_law_544 rfl rfl ?_
  refine am_sload_n iL_law_545 rfl rfl ?_
  refine am_iload iL_law_546 rfl ?_
  refine am_iconst (i := 1) (v := 1) rfl iL_law_548 ?_
  refine am_iadd iL_law_549 ?_
  refine am_sld iL_law_550 hx1 ?_
  refine am_cV1r iL_law_551 cL_law_117 mX7_ticks hM.1 rfl rfl rfl (x_ticks_ok hM hW _) ?_
  refine am_istore_6 iL_law_554 rfl rfl ?_
  refine am_aload_n iL_law_556 rfl rfl ?_
  refine am_cV0r iL_law_557 cL_law_97 mX7_thrown hM.1 rfl rfl rfl (x_thrown hM) ?_
  refine am_iload iL_law_560 rfl ?_
  refine am_icmp_eq iL_law_562 (fun _ => ?_) (fun hc => absurd rfl hc)
  obtain ⟨⟨N', hS'⟩, hK, hL, hJ⟩ := h2
  refine am_iload iL_law_567 rfl ?_
  refine am_if_ne iL_law_569 (fun _ => ?_) (fun hc => ?_)
  · refine am_goto iL_law_584 ?_
    exact nx _ _ _ _ _ _ hS'
  · refine am_aload_n iL_law_572 rfl rfl ?_
    refine am_iconst (i := 0) (v := 0) rfl iL_law_573 ?_
    refine am_lald iL_law_574 hK (by rw [hL]; exact vp_in_nI (n := 0) (N := 1) (by decide) (by decide)) ?_
    show am_W _ _ _ _ (.long (am_J _ O 0) :: _) _ _
    rw [hJ hc]
    refine am_iload iL_law_575 rfl ?_
    refine am_i2l iL_law_577 ?_
    refine am_lcmp iL_law_578 ?_
    rw [lg_self]
    refine am_if_eq iL_law_579 (fun _ => ?_) (fun hc => absurd rfl hc)
    refine am_goto iL_law_584 ?_
    exact nx _ _ _ _ _ _ hS'
theorem law_c6 (hS : SVN mm M O X P R N T C) (hC : C ≤ 512) (hT : T + 100 ≤ 1000000) (hx1 : vp_in (nI i + 1) sc.1) (hx2 : vp_in (nI i + 2) sc.1) (hx3 : vp_in (nI i + 3) sc.1) (hx4 : vp_in (nI i + 4) sc.1) (hx5 : vp_in (nI i + 5) sc.1) (hx6 : vp_in (nI i + 6) sc.1) (hx7 : vp_in (nI i + 7) sc.1) (nx : ∀ (mm' : am_Mem) (X' : ms_X) (N' : Nat) (w5 w6 w7 : Value), SVN mm' M O X' P R N' (T + 100) (C + 1) → am_W sc 131 1621 [.retAddr 0, .ref 1, .ref M, .ref O, .int (nI i), w5, w6, w7] [] mm' Q) : am_W sc 131 587 [.retAddr 0, .ref 1, .ref M, .ref O, .int (nI i), w5, w6, w7] [] mm Q := by
  have hW := hS.wf
  have hr2 := hS.r2
  by_cases hv : sc.2 (nI i + 2).toNatClampNeg = 0
  · refine am_aload_n iL_law_587 rfl rfl ?_
    refine am_sload_n iL_law_588 rfl rfl ?_
    refine am_iload iL_law_589 rfl ?_
    refine am_iconst (i := 1) (v := 1) rfl iL_law_591 ?_
    refine am_iadd iL_law_592 ?_
    refine am_sld iL_law_593 hx1 ?_
    refine am_sload_n iL_law_594 rfl rfl ?_
    refine am_iload iL_law_595 rfl ?_
    refine am_iconst (i := 2) (v := 2) rfl iL_law_597 ?_
    refine am_iadd iL_law_598 ?_
    refine am_sld iL_law_599 hx2 ?_
    refine am_if_eq iL_law_600 (fun _ => ?_) (fun hc => absurd hv hc)
    refine am_iconst (i := 0) (v := 0) rfl iL_law_607 ?_
    refine am_aload_n iL_law_608 rfl rfl ?_
    refine am_eS4r iL_law_609 cL_law_118 mL_up rfl rfl rfl (H_up hS hC hT _ _ (Or.inl rfl)) ?_
    intro mm1 h1
    obtain ⟨m', rfl, hM⟩ := h1.ref
    have h2 := h1.fin
    refine am_istore_5 iL_law_612 rfl rfl ?_
    refine am_aload_n iL_law_614 rfl rfl ?_
    refine am_sload_n iL_law_615 rfl rfl ?_
    refine am_iload iL_law_616 rfl ?_
    refine am_iconst (i := 1) (v := 1) rfl iL_law_618 ?_
    refine am_iadd iL_law_619 ?_
    refine am_sld iL_law_620 hx1 ?_
    refine am_sload_n iL_law_621 rfl rfl ?_
    refine am_iload iL_law_622 rfl ?_
    refine am_iconst (i := 2) (v := 2) rfl iL_law_624 ?_
    refine am_iadd iL_law_625 ?_
    refine am_sld iL_law_626 hx2 ?_
    refine am_if_eq iL_law_627 (fun _ => ?_) (fun hc => absurd hv hc)
    refine am_iconst (i := 0) (v := 0) rfl iL_law_634 ?_
    refine am_cV2r iL_law_635 cL_law_121 mX7_up hM.1 rfl rfl rfl (x_up_ok hM hW _ _ (Or.inl rfl)) ?_
    refine am_istore_6 iL_law_638 rfl rfl ?_
    refine am_aload_n iL_law_640 rfl rfl ?_
    refine am_cV0r iL_law_641 cL_law_97 mX7_thrown hM.1 rfl rfl rfl (x_thrown hM) ?_
    refine am_iload iL_law_644 rfl ?_
    refine am_icmp_eq iL_law_646 (fun _ => ?_) (fun hc => absurd rfl hc)
    obtain ⟨⟨N', hS'⟩, hK, hL, hJ⟩ := h2
    refine am_iload iL_law_651 rfl ?_
    refine am_if_ne iL_law_653 (fun _ => ?_) (fun hc => ?_)
    · refine am_goto iL_law_675 ?_
      exact nx _ _ _ _ _ _ hS'
    · refine am_aload_n iL_law_656 rfl rfl ?_
      refine am_iconst (i := 0) (v := 0) rfl iL_law_657 ?_
      refine am_lald iL_law_658 hK (by rw [hL]; exact vp_in_nI (n := 0) (N := 1) (by decide) (by decide)) ?_
      show am_W _ _ _ _ (.long (am_J _ O 0) :: _) _ _
      rw [hJ hc]
      refine am_iload iL_law_659 rfl ?_
      refine am_if_eq iL_law_661 (fun c0 => ?_) (fun c0 => ?_)
      · rw [if_pos c0]
        refine am_lconst (i := 0) (v := 0) rfl iL_law_668 ?_
        refine am_lcmp iL_law_669 ?_
        rw [lg_self]
        refine am_if_eq iL_law_670 (fun _ => ?_) (fun hc => absurd rfl hc)
        refine am_goto iL_law_675 ?_
        exact nx _ _ _ _ _ _ hS'
      · rw [if_neg c0]
        refine am_lconst (i := 1) (v := 1) rfl iL_law_664 ?_
        refine am_goto iL_law_665 ?_
        refine am_lcmp iL_law_669 ?_
        rw [lg_self]
        refine am_if_eq iL_law_670 (fun _ => ?_) (fun hc => absurd rfl hc)
        refine am_goto iL_law_675 ?_
        exact nx _ _ _ _ _ _ hS'
  · refine am_aload_n iL_law_587 rfl rfl ?_
    refine am_sload_n iL_law_588 rfl rfl ?_
    refine am_iload iL_law_589 rfl ?_
    refine am_iconst (i := 1) (v := 1) rfl iL_law_591 ?_
    refine am_iadd iL_law_592 ?_
    refine am_sld iL_law_593 hx1 ?_
    refine am_sload_n iL_law_594 rfl rfl ?_
    refine am_iload iL_law_595 rfl ?_
    refine am_iconst (i := 2) (v := 2) rfl iL_law_597 ?_
    refine am_iadd iL_law_598 ?_
    refine am_sld iL_law_599 hx2 ?_
    refine am_if_eq iL_law_600 (fun hc => absurd hc hv) (fun _ => ?_)
    refine am_iconst (i := 1) (v := 1) rfl iL_law_603 ?_
    refine am_goto iL_law_604 ?_
    refine am_aload_n iL_law_608 rfl rfl ?_
    refine am_eS4r iL_law_609 cL_law_118 mL_up rfl rfl rfl (H_up hS hC hT _ _ (Or.inr rfl)) ?_
    intro mm1 h1
    obtain ⟨m', rfl, hM⟩ := h1.ref
    have h2 := h1.fin
    refine am_istore_5 iL_law_612 rfl rfl ?_
    refine am_aload_n iL_law_614 rfl rfl ?_
    refine am_sload_n iL_law_615 rfl rfl ?_
    refine am_iload iL_law_616 rfl ?_
    refine am_iconst (i := 1) (v := 1) rfl iL_law_618 ?_
    refine am_iadd iL_law_619 ?_
    refine am_sld iL_law_620 hx1 ?_
    refine am_sload_n iL_law_621 rfl rfl ?_
    refine am_iload iL_law_622 rfl ?_
    refine am_iconst (i := 2) (v := 2) rfl iL_law_624 ?_
    refine am_iadd iL_law_625 ?_
    refine am_sld iL_law_626 hx2 ?_
    refine am_if_eq iL_law_627 (fun hc => absurd hc hv) (fun _ => ?_)
    refine am_iconst (i := 1) (v := 1) rfl iL_law_630 ?_
    refine am_goto iL_law_631 ?_
    refine am_cV2r iL_law_635 cL_law_121 mX7_up hM.1 rfl rfl rfl (x_up_ok hM hW _ _ (Or.inr rfl)) ?_
    refine am_istore_6 iL_law_638 rfl rfl ?_
    refine am_aload_n iL_law_640 rfl rfl ?_
    refine am_cV0r iL_law_641 cL_law_97 mX7_thrown hM.1 rfl rfl rfl (x_thrown hM) ?_
    refine am_iload iL_law_644 rfl ?_
    refine am_icmp_eq iL_law_646 (fun _ => ?_) (fun hc => absurd rfl hc)
    obtain ⟨⟨N', hS'⟩, hK, hL, hJ⟩ := h2
    refine am_iload iL_law_651 rfl ?_
    refine am_if_ne iL_law_653 (fun _ => ?_) (fun hc => ?_)
    · refine am_goto iL_law_675 ?_
      exact nx _ _ _ _ _ _ hS'
    · refine am_aload_n iL_law_656 rfl rfl ?_
      refine am_iconst (i := 0) (v := 0) rfl iL_law_657 ?_
      refine am_lald iL_law_658 hK (by rw [hL]; exact vp_in_nI (n := 0) (N := 1) (by decide) (by decide)) ?_
      show am_W _ _ _ _ (.long (am_J _ O 0) :: _) _ _
      rw [hJ hc]
      refine am_iload iL_law_659 rfl ?_
      refine am_if_eq iL_law_661 (fun c0 => ?_) (fun c0 => ?_)
      · rw [if_pos c0]
        refine am_lconst (i := 0) (v := 0) rfl iL_law_668 ?_
        refine am_lcmp iL_law_669 ?_
        rw [lg_self]
        refine am_if_eq iL_law_670 (fun _ => ?_) (fun hc => absurd rfl hc)
        refine am_goto iL_law_675 ?_
        exact nx _ _ _ _ _ _ hS'
      · rw [if_neg c0]
        refine am_lconst (i := 1) (v := 1) rfl iL_law_664 ?_
        refine am_goto iL_law_665 ?_
        refine am_lcmp iL_law_669 ?_
        rw [lg_self]
        refine am_if_eq iL_law_670 (fun _ => ?_) (fun hc => absurd rfl hc)
        refine am_goto iL_law_675 ?_
        exact nx _ _ _ _ _ _ hS'
theorem law_c7 (hS : SVN mm M O X P R N T C) (hC : C ≤ 512) (hT : T + 100 ≤ 1000000) (hx1 : vp_in (nI i + 1) sc.1) (hx2 : vp_in (nI i + 2) sc.1) (hx3 : vp_in (nI i + 3) sc.1) (hx4 : vp_in (nI i + 4) sc.1) (hx5 : vp_in (nI i + 5) sc.1) (hx6 : vp_in (nI i + 6) sc.1) (hx7 : vp_in (nI i + 7) sc.1) (nx : ∀ (mm' : am_Mem) (X' : ms_X) (N' : Nat) (w5 w6 w7 : Value), SVN mm' M O X' P R N' (T + 100) (C + 1) → am_W sc 131 1621 [.retAddr 0, .ref 1, .ref M, .ref O, .int (nI i), w5, w6, w7] [] mm' Q) : am_W sc 131 678 [.retAddr 0, .ref 1, .ref M, .ref O, .int (nI i), w5, w6, w7] [] mm Q := by
  have hW := hS.wf
  have hr2 := hS.r2
  refine am_aload_n iL_law_678 rfl rfl ?_
  refine am_sload_n iL_law_679 rfl rfl ?_
  refine am_iload iL_law_680 rfl ?_
  refine am_iconst (i := 1) (v := 1) rfl iL_law_682 ?_
  refine am_iadd iL_law_683 ?_
  refine am_sld iL_law_684 hx1 ?_
  refine am_aload_n iL_law_685 rfl rfl ?_
  refine am_eS3r iL_law_686 cL_law_122 mL_snapshot rfl rfl rfl (H_snapshot hS hC hT _) ?_
  intro mm1 h1
  obtain ⟨m', rfl, hM⟩ := h1.ref
  have h2 := h1.fin
  refine am_istore_5 iL_law_689 rfl rfl ?_
  refine am_aload_n iL_law_691 rfl rfl ?_
  refine am_sload_n iL_law_692 rfl rfl ?_
  refine am_iload iL_law_693 rfl ?_
  refine am_iconst (i := 1) (v := 1) rfl iL_law_695 ?_
  refine am_iadd iL_law_696 ?_
  refine am_sld iL_law_697 hx1 ?_
  refine am_cV1r iL_law_698 cL_law_124 mX7_snapshot hM.1 rfl rfl rfl (x_snap_ok hM hW.1 _) ?_
  refine am_istore_6 iL_law_701 rfl rfl ?_
  refine am_aload_n iL_law_703 rfl rfl ?_
  refine am_cV0r iL_law_704 cL_law_97 mX7_thrown hM.1 rfl rfl rfl (x_thrown hM) ?_
  refine am_iload iL_law_707 rfl ?_
  refine am_icmp_eq iL_law_709 (fun _ => ?_) (fun hc => absurd rfl hc)
  obtain ⟨⟨N', hS'⟩, hK, hL, hJ⟩ := h2
  refine am_iload iL_law_714 rfl ?_
  refine am_if_ne iL_law_716 (fun _ => ?_) (fun hc => ?_)
  · refine am_goto iL_law_731 ?_
    exact nx _ _ _ _ _ _ hS'
  · refine am_aload_n iL_law_719 rfl rfl ?_
    refine am_iconst (i := 0) (v := 0) rfl iL_law_720 ?_
    refine am_lald iL_law_721 hK (by rw [hL]; exact vp_in_nI (n := 0) (N := 1) (by decide) (by decide)) ?_
    show am_W _ _ _ _ (.long (am_J _ O 0) :: _) _ _
    rw [hJ hc]
    refine am_iload iL_law_722 rfl ?_
    refine am_i2l iL_law_724 ?_
    refine am_lcmp iL_law_725 ?_
    rw [lg_self]
    refine am_if_eq iL_law_726 (fun _ => ?_) (fun hc => absurd rfl hc)
    refine am_goto iL_law_731 ?_
    exact nx _ _ _ _ _ _ hS'
theorem law_c8 (hS : SVN mm M O X P R N T C) (hC : C ≤ 512) (hT : T + 100 ≤ 1000000) (hx1 : vp_in (nI i + 1) sc.1) (hx2 : vp_in (nI i + 2) sc.1) (hx3 : vp_in (nI i + 3) sc.1) (hx4 : vp_in (nI i + 4) sc.1) (hx5 : vp_in (nI i + 5) sc.1) (hx6 : vp_in (nI i + 6) sc.1) (hx7 : vp_in (nI i + 7) sc.1) (nx : ∀ (mm' : am_Mem) (X' : ms_X) (N' : Nat) (w5 w6 w7 : Value), SVN mm' M O X' P R N' (T + 100) (C + 1) → am_W sc 131 1621 [.retAddr 0, .ref 1, .ref M, .ref O, .int (nI i), w5, w6, w7] [] mm' Q) : am_W sc 131 734 [.retAddr 0, .ref 1, .ref M, .ref O, .int (nI i), w5, w6, w7] [] mm Q := by
  have hW := hS.wf
  have hr2 := hS.r2
  refine am_aload_n iL_law_734 rfl rfl ?_
  refine am_sload_n iL_law_735 rfl rfl ?_
  refine am_iload iL_law_736 rfl ?_
  refine am_iconst (i := 1) (v := 1) rfl iL_law_738 ?_
  refine am_iadd iL_law_739 ?_
  refine am_sld iL_law_740 hx1 ?_
  refine am_aload_n iL_law_741 rfl rfl ?_
  refine am_eS3r iL_law_742 cL_law_125 mL_crash rfl rfl rfl (H_crash hS hC hT _) ?_
  intro mm1 h1
  obtain ⟨m', rfl, hM⟩ := h1.ref
  have h2 := h1.fin
  refine am_istore_5 iL_law_745 rfl rfl ?_
  refine am_aload_n iL_law_747 rfl rfl ?_
  refine am_sload_n iL_law_748 rfl rfl ?_
  refine am_iload iL_law_749 rfl ?_
  refine am_iconst (i := 1) (v := 1) rfl iL_law_751 ?_
  refine am_iadd iL_law_752 ?_
  refine am_sld iL_law_753 hx1 ?_
  refine am_cV1r iL_law_754 cL_law_127 mX7_crash hM.1 rfl rfl rfl (x_crsh_ok hM hW.1 _) ?_
  refine am_istore_6 iL_law_757 rfl rfl ?_
  refine am_aload_n iL_law_759 rfl rfl ?_
  refine am_cV0r iL_law_760 cL_law_97 mX7_thrown hM.1 rfl rfl rfl (x_thrown hM) ?_
  refine am_iload iL_law_763 rfl ?_
  refine am_icmp_eq iL_law_765 (fun _ => ?_) (fun hc => absurd rfl hc)
  obtain ⟨⟨N', hS'⟩, hK, hL, hJ⟩ := h2
  refine am_iload iL_law_770 rfl ?_
  refine am_if_ne iL_law_772 (fun _ => ?_) (fun hc => ?_)
  · refine am_goto iL_law_787 ?_
    exact nx _ _ _ _ _ _ hS'
  · refine am_aload_n iL_law_775 rfl rfl ?_
    refine am_iconst (i := 0) (v := 0) rfl iL_law_776 ?_
    refine am_lald iL_law_777 hK (by rw [hL]; exact vp_in_nI (n := 0) (N := 1) (by decide) (by decide)) ?_
    show am_W _ _ _ _ (.long (am_J _ O 0) :: _) _ _
    rw [hJ hc]
    refine am_iload iL_law_778 rfl ?_
    refine am_i2l iL_law_780 ?_
    refine am_lcmp iL_law_781 ?_
    rw [lg_self]
    refine am_if_eq iL_law_782 (fun _ => ?_) (fun hc => absurd rfl hc)
    refine am_goto iL_law_787 ?_
    exact nx _ _ _ _ _ _ hS'
theorem law_c9 (hS : SVN mm M O X P R N T C) (hC : C ≤ 512) (hT : T + 100 ≤ 1000000) (hx1 : vp_in (nI i + 1) sc.1) (hx2 : vp_in (nI i + 2) sc.1) (hx3 : vp_in (nI i + 3) sc.1) (hx4 : vp_in (nI i + 4) sc.1) (hx5 : vp_in (nI i + 5) sc.1) (hx6 : vp_in (nI i + 6) sc.1) (hx7 : vp_in (nI i + 7) sc.1) (nx : ∀ (mm' : am_Mem) (X' : ms_X) (N' : Nat) (w5 w6 w7 : Value), SVN mm' M O X' P R N' (T + 100) (C + 1) → am_W sc 131 1621 [.retAddr 0, .ref 1, .ref M, .ref O, .int (nI i), w5, w6, w7] [] mm' Q) : am_W sc 131 790 [.retAddr 0, .ref 1, .ref M, .ref O, .int (nI i), w5, w6, w7] [] mm Q := by
  have hW := hS.wf
  have hr2 := hS.r2
  refine am_aload_n iL_law_790 rfl rfl ?_
  refine am_eV0r iL_law_791 cL_law_128 mX6_trim hS.k1 rfl rfl rfl (H_trim hS hT) ?_
  intro mm1 h1
  obtain ⟨m', rfl, hM⟩ := h1.ref
  have h2 := h1.fin
  refine am_aload_n iL_law_794 rfl rfl ?_
  refine am_cV0r iL_law_795 cL_law_131 mX7_trim hM.1 rfl rfl rfl (x_trim_ok hM hW.1) ?_
  refine am_icmp_eq iL_law_798 (fun _ => ?_) (fun hc => absurd rfl hc)
  obtain ⟨⟨N', hS'⟩, -⟩ := h2
  exact nx _ _ _ _ _ _ hS'
theorem law_c10 (hS : SVN mm M O X P R N T C) (hC : C ≤ 512) (hT : T + 100 ≤ 1000000) (hx1 : vp_in (nI i + 1) sc.1) (hx2 : vp_in (nI i + 2) sc.1) (hx3 : vp_in (nI i + 3) sc.1) (hx4 : vp_in (nI i + 4) sc.1) (hx5 : vp_in (nI i + 5) sc.1) (hx6 : vp_in (nI i + 6) sc.1) (hx7 : vp_in (nI i + 7) sc.1) (nx : ∀ (mm' : am_Mem) (X' : ms_X) (N' : Nat) (w5 w6 w7 : Value), SVN mm' M O X' P R N' (T + 100) (C + 1) → am_W sc 131 1621 [.retAddr 0, .ref 1, .ref M, .ref O, .int (nI i), w5, w6, w7] [] mm' Q) : am_W sc 131 803 [.retAddr 0, .ref 1, .ref M, .ref O, .int (nI i), w5, w6, w7] [] mm Q := by
  have hW := hS.wf
  have hr2 := hS.r2
  refine am_aload_n iL_law_803 rfl rfl ?_
  refine am_sload_n iL_law_804 rfl rfl ?_
  refine am_iload iL_law_805 rfl ?_
  refine am_iconst (i := 1) (v := 1) rfl iL_law_807 ?_
  refine am_iadd iL_law_808 ?_
  refine am_sld iL_law_809 hx1 ?_
  refine am_sload_n iL_law_810 rfl rfl ?_
  refine am_iload iL_law_811 rfl ?_
  refine am_iconst (i := 2) (v := 2) rfl iL_law_813 ?_
  refine am_iadd iL_law_814 ?_
  refine am_sld iL_law_815 hx2 ?_
  refine am_i2l iL_law_816 ?_
  refine am_bipush (i := 32) (v := 32) rfl iL_law_817 ?_
  refine am_lshl iL_law_819 ?_
  refine am_sload_n iL_law_820 rfl rfl ?_
  refine am_iload iL_law_821 rfl ?_
  refine am_iconst (i := 3) (v := 3) rfl iL_law_823 ?_
  refine am_iadd iL_law_824 ?_
  refine am_sld iL_law_825 hx3 ?_
  refine am_i2l iL_law_826 ?_
  refine am_ldc2 (v := 4294967295) (wd_985) iL_law_827 ?_
  refine am_land iL_law_830 ?_
  refine am_lor iL_law_831 ?_
  refine am_sload_n iL_law_832 rfl rfl ?_
  refine am_iload iL_law_833 rfl ?_
  refine am_iconst (i := 4) (v := 4) rfl iL_law_835 ?_
  refine am_iadd iL_law_836 ?_
  refine am_sld iL_law_837 hx4 ?_
  refine am_sload_n iL_law_838 rfl rfl ?_
  refine am_iload iL_law_839 rfl ?_
  refine am_iconst (i := 5) (v := 5) rfl iL_law_841 ?_
  refine am_iadd iL_law_842 ?_
  refine am_sld iL_law_843 hx5 ?_
  refine am_sload_n iL_law_844 rfl rfl ?_
  refine am_iload iL_law_845 rfl ?_
  refine am_bipush (i := 6) (v := 6) rfl iL_law_847 ?_
  refine am_iadd iL_law_849 ?_
  refine am_sld iL_law_850 hx6 ?_
  refine am_sload_n iL_law_851 rfl rfl ?_
  refine am_iload iL_law_852 rfl ?_
  refine am_bipush (i := 7) (v := 7) rfl iL_law_854 ?_
  refine am_iadd iL_law_856 ?_
  refine am_sld iL_law_857 hx7 ?_
  refine am_aload_n iL_law_858 rfl rfl ?_
  refine am_eS8r iL_law_859 cL_law_134 mL_ask rfl rfl rfl (H_ask hS hC hT _ _ _ _ _ _) ?_
  intro mm1 h1
  obtain ⟨m', rfl, hM⟩ := h1.ref
  have h2 := h1.fin
  refine am_istore_5 iL_law_862 rfl rfl ?_
  refine am_aload_n iL_law_864 rfl rfl ?_
  refine am_sload_n iL_law_865 rfl rfl ?_
  refine am_iload iL_law_866 rfl ?_
  refine am_iconst (i := 1) (v := 1) rfl iL_law_868 ?_
  refine am_iadd iL_law_869 ?_
  refine am_sld iL_law_870 hx1 ?_
  refine am_sload_n iL_law_871 rfl rfl ?_
  refine am_iload iL_law_872 rfl ?_
  refine am_iconst (i := 2) (v := 2) rfl iL_law_874 ?_
  refine am_iadd iL_law_875 ?_
  refine am_sld iL_law_876 hx2 ?_
  refine am_i2l iL_law_877 ?_
  refine am_bipush (i := 32) (v := 32) rfl iL_law_878 ?_
  refine am_lshl iL_law_880 ?_
  refine am_sload_n iL_law_881 rfl rfl ?_
  refine am_iload iL_law_882 rfl ?_
  refine am_iconst (i := 3) (v := 3) rfl iL_law_884 ?_
  refine am_iadd iL_law_885 ?_
  refine am_sld iL_law_886 hx3 ?_
  refine am_i2l iL_law_887 ?_
  refine am_ldc2 (v := 4294967295) (wd_985) iL_law_888 ?_
  refine am_land iL_law_891 ?_
  refine am_lor iL_law_892 ?_
  refine am_sload_n iL_law_893 rfl rfl ?_
  refine am_iload iL_law_894 rfl ?_
  refine am_iconst (i := 4) (v := 4) rfl iL_law_896 ?_
  refine am_iadd iL_law_897 ?_
  refine am_sld iL_law_898 hx4 ?_
  refine am_sload_n iL_law_899 rfl rfl ?_
  refine am_iload iL_law_900 rfl ?_
  refine am_iconst (i := 5) (v := 5) rfl iL_law_902 ?_
  refine am_iadd iL_law_903 ?_
  refine am_sld iL_law_904 hx5 ?_
  refine am_sload_n iL_law_905 rfl rfl ?_
  refine am_iload iL_law_906 rfl ?_
  refine am_bipush (i := 6) (v := 6) rfl iL_law_908 ?_
  refine am_iadd iL_law_910 ?_
  refine am_sld iL_law_911 hx6 ?_
  refine am_sload_n iL_law_912 rfl rfl ?_
  refine am_iload iL_law_913 rfl ?_
  refine am_bipush (i := 7) (v := 7) rfl iL_law_915 ?_
  refine am_iadd iL_law_917 ?_
  refine am_sld iL_law_918 hx7 ?_
  refine am_cV6r iL_law_919 cL_law_137 mX7_ask hM.1 rfl rfl rfl (x_ask_ok hM hW _ _ _ _ _ _) ?_
  refine am_istore_6 iL_law_922 rfl rfl ?_
  refine am_aload_n iL_law_924 rfl rfl ?_
  refine am_cV0r iL_law_925 cL_law_97 mX7_thrown hM.1 rfl rfl rfl (x_thrown hM) ?_
  refine am_iload iL_law_928 rfl ?_
  refine am_icmp_eq iL_law_930 (fun _ => ?_) (fun hc => absurd rfl hc)
  obtain ⟨⟨N', hS'⟩, hK, hL, hJ⟩ := h2
  refine am_iload iL_law_935 rfl ?_
  refine am_if_ne iL_law_937 (fun _ => ?_) (fun hc => ?_)
  · refine am_goto iL_law_952 ?_
    exact nx _ _ _ _ _ _ hS'
  · refine am_aload_n iL_law_940 rfl rfl ?_
    refine am_iconst (i := 0) (v := 0) rfl iL_law_941 ?_
    refine am_lald iL_law_942 hK (by rw [hL]; exact vp_in_nI (n := 0) (N := 1) (by decide) (by decide)) ?_
    show am_W _ _ _ _ (.long (am_J _ O 0) :: _) _ _
    rw [hJ hc]
    refine am_iload iL_law_943 rfl ?_
    refine am_i2l iL_law_945 ?_
    refine am_lcmp iL_law_946 ?_
    rw [lg_self]
    refine am_if_eq iL_law_947 (fun _ => ?_) (fun hc => absurd rfl hc)
    refine am_goto iL_law_952 ?_
    exact nx _ _ _ _ _ _ hS'
theorem law_c11 (hS : SVN mm M O X P R N T C) (hC : C ≤ 512) (hT : T + 100 ≤ 1000000) (hx1 : vp_in (nI i + 1) sc.1) (hx2 : vp_in (nI i + 2) sc.1) (hx3 : vp_in (nI i + 3) sc.1) (hx4 : vp_in (nI i + 4) sc.1) (hx5 : vp_in (nI i + 5) sc.1) (hx6 : vp_in (nI i + 6) sc.1) (hx7 : vp_in (nI i + 7) sc.1) (nx : ∀ (mm' : am_Mem) (X' : ms_X) (N' : Nat) (w5 w6 w7 : Value), SVN mm' M O X' P R N' (T + 100) (C + 1) → am_W sc 131 1621 [.retAddr 0, .ref 1, .ref M, .ref O, .int (nI i), w5, w6, w7] [] mm' Q) : am_W sc 131 955 [.retAddr 0, .ref 1, .ref M, .ref O, .int (nI i), w5, w6, w7] [] mm Q := by
  have hW := hS.wf
  have hr2 := hS.r2
  refine am_aload_n iL_law_955 rfl rfl ?_
  refine am_sload_n iL_law_956 rfl rfl ?_
  refine am_iload iL_law_957 rfl ?_
  refine am_iconst (i := 1) (v := 1) rfl iL_law_959 ?_
  refine am_iadd iL_law_960 ?_
  refine am_sld iL_law_961 hx1 ?_
  refine am_sload_n iL_law_962 rfl rfl ?_
  refine am_iload iL_law_963 rfl ?_
  refine am_iconst (i := 2) (v := 2) rfl iL_law_965 ?_
  refine am_iadd iL_law_966 ?_
  refine am_sld iL_law_967 hx2 ?_
  refine am_aload_n iL_law_968 rfl rfl ?_
  refine am_eS4r iL_law_969 cL_law_138 mL_read rfl rfl rfl (H_read hS hC hT _ _) ?_
  intro mm1 h1
  obtain ⟨m', rfl, hM⟩ := h1.ref
  have h2 := h1.fin
  refine am_istore_5 iL_law_972 rfl rfl ?_
  refine am_aload_n iL_law_974 rfl rfl ?_
  refine am_sload_n iL_law_975 rfl rfl ?_
  refine am_iload iL_law_976 rfl ?_
  refine am_iconst (i := 1) (v := 1) rfl iL_law_978 ?_
  refine am_iadd iL_law_979 ?_
  refine am_sld iL_law_980 hx1 ?_
  refine am_sload_n iL_law_981 rfl rfl ?_
  refine am_iload iL_law_982 rfl ?_
  refine am_iconst (i := 2) (v := 2) rfl iL_law_984 ?_
  refine am_iadd iL_law_985 ?_
  refine am_sld iL_law_986 hx2 ?_
  refine am_cV2r iL_law_987 cL_law_140 mX7_read hM.1 rfl rfl rfl (x_read_ok hM hW.2.1 _ _) ?_
  refine am_lstore_6 iL_law_990 rfl rfl ?_
  refine am_aload_n iL_law_992 rfl rfl ?_
  refine am_cV0r iL_law_993 cL_law_97 mX7_thrown hM.1 rfl rfl rfl (x_thrown hM) ?_
  refine am_iload iL_law_996 rfl ?_
  refine am_icmp_eq iL_law_998 (fun _ => ?_) (fun hc => absurd rfl hc)
  obtain ⟨⟨N', hS'⟩, hK, hL, hJ⟩ := h2
  refine am_iload iL_law_1003 rfl ?_
  refine am_if_ne iL_law_1005 (fun _ => ?_) (fun hc => ?_)
  · refine am_goto iL_law_1019 ?_
    exact nx _ _ _ _ _ _ hS'
  · refine am_aload_n iL_law_1008 rfl rfl ?_
    refine am_iconst (i := 0) (v := 0) rfl iL_law_1009 ?_
    refine am_lald iL_law_1010 hK (by rw [hL]; exact vp_in_nI (n := 0) (N := 1) (by decide) (by decide)) ?_
    show am_W _ _ _ _ (.long (am_J _ O 0) :: _) _ _
    rw [hJ hc]
    refine am_lload iL_law_1011 rfl ?_
    refine am_lcmp iL_law_1013 ?_
    rw [lg_self]
    refine am_if_eq iL_law_1014 (fun _ => ?_) (fun hc => absurd rfl hc)
    refine am_goto iL_law_1019 ?_
    exact nx _ _ _ _ _ _ hS'
theorem law_c12 (hS : SVN mm M O X P R N T C) (hC : C ≤ 512) (hT : T + 100 ≤ 1000000) (hx1 : vp_in (nI i + 1) sc.1) (hx2 : vp_in (nI i + 2) sc.1) (hx3 : vp_in (nI i + 3) sc.1) (hx4 : vp_in (nI i + 4) sc.1) (hx5 : vp_in (nI i + 5) sc.1) (hx6 : vp_in (nI i + 6) sc.1) (hx7 : vp_in (nI i + 7) sc.1) (nx : ∀ (mm' : am_Mem) (X' : ms_X) (N' : Nat) (w5 w6 w7 : Value), SVN mm' M O X' P R N' (T + 100) (C + 1) → am_W sc 131 1621 [.retAddr 0, .ref 1, .ref M, .ref O, .int (nI i), w5, w6, w7] [] mm' Q) : am_W sc 131 1022 [.retAddr 0, .ref 1, .ref M, .ref O, .int (nI i), w5, w6, w7] [] mm Q := by
  have hW := hS.wf
  have hr2 := hS.r2
  refine am_aload_n iL_law_1022 rfl rfl ?_
  refine am_sload_n iL_law_1023 rfl rfl ?_
  refine am_iload iL_law_1024 rfl ?_
  refine am_iconst (i := 1) (v := 1) rfl iL_law_1026 ?_
  refine am_iadd iL_law_1027 ?_
  refine am_sld iL_law_1028 hx1 ?_
  refine am_sload_n iL_law_1029 rfl rfl ?_
  refine am_iload iL_law_1030 rfl ?_
  refine am_iconst (i := 2) (v := 2) rfl iL_law_1032 ?_
  refine am_iadd iL_law_1033 ?_
  refine am_sld iL_law_1034 hx2 ?_
  refine am_sload_n iL_law_1035 rfl rfl ?_
  refine am_iload iL_law_1036 rfl ?_
  refine am_iconst (i := 3) (v := 3) rfl iL_law_1038 ?_
  refine am_iadd iL_law_1039 ?_
  refine am_sld iL_law_1040 hx3 ?_
  refine am_aload_n iL_law_1041 rfl rfl ?_
  refine am_eS5r iL_law_1042 cL_law_141 mL_value rfl rfl rfl (H_value hS hC hT _ _ _) ?_
  intro mm1 h1
  obtain ⟨m', rfl, hM⟩ := h1.ref
  have h2 := h1.fin
  refine am_istore_5 iL_law_1045 rfl rfl ?_
  refine am_aload_n iL_law_1047 rfl rfl ?_
  refine am_sload_n iL_law_1048 rfl rfl ?_
  refine am_iload iL_law_1049 rfl ?_
  refine am_iconst (i := 1) (v := 1) rfl iL_law_1051 ?_
  refine am_iadd iL_law_1052 ?_
  refine am_sld iL_law_1053 hx1 ?_
  refine am_sload_n iL_law_1054 rfl rfl ?_
  refine am_iload iL_law_1055 rfl ?_
  refine am_iconst (i := 2) (v := 2) rfl iL_law_1057 ?_
  refine am_iadd iL_law_1058 ?_
  refine am_sld iL_law_1059 hx2 ?_
  refine am_sload_n iL_law_1060 rfl rfl ?_
  refine am_iload iL_law_1061 rfl ?_
  refine am_iconst (i := 3) (v := 3) rfl iL_law_1063 ?_
  refine am_iadd iL_law_1064 ?_
  refine am_sld iL_law_1065 hx3 ?_
  refine am_cV3r iL_law_1066 cL_law_144 mX7_value hM.1 rfl rfl rfl (x_value_ok hM hW.1 _ _ _) ?_
  refine am_lstore_6 iL_law_1069 rfl rfl ?_
  refine am_aload_n iL_law_1071 rfl rfl ?_
  refine am_cV0r iL_law_1072 cL_law_97 mX7_thrown hM.1 rfl rfl rfl (x_thrown hM) ?_
  refine am_iload iL_law_1075 rfl ?_
  refine am_icmp_eq iL_law_1077 (fun _ => ?_) (fun hc => absurd rfl hc)
  obtain ⟨⟨N', hS'⟩, hK, hL, hJ⟩ := h2
  refine am_iload iL_law_1082 rfl ?_
  refine am_if_ne iL_law_1084 (fun _ => ?_) (fun hc => ?_)
  · refine am_goto iL_law_1098 ?_
    exact nx _ _ _ _ _ _ hS'
  · refine am_aload_n iL_law_1087 rfl rfl ?_
    refine am_iconst (i := 0) (v := 0) rfl iL_law_1088 ?_
    refine am_lald iL_law_1089 hK (by rw [hL]; exact vp_in_nI (n := 0) (N := 1) (by decide) (by decide)) ?_
    show am_W _ _ _ _ (.long (am_J _ O 0) :: _) _ _
    rw [hJ hc]
    refine am_lload iL_law_1090 rfl ?_
    refine am_lcmp iL_law_1092 ?_
    rw [lg_self]
    refine am_if_eq iL_law_1093 (fun _ => ?_) (fun hc => absurd rfl hc)
    refine am_goto iL_law_1098 ?_
    exact nx _ _ _ _ _ _ hS'
theorem law_c13 (hS : SVN mm M O X P R N T C) (hC : C ≤ 512) (hT : T + 100 ≤ 1000000) (hx1 : vp_in (nI i + 1) sc.1) (hx2 : vp_in (nI i + 2) sc.1) (hx3 : vp_in (nI i + 3) sc.1) (hx4 : vp_in (nI i + 4) sc.1) (hx5 : vp_in (nI i + 5) sc.1) (hx6 : vp_in (nI i + 6) sc.1) (hx7 : vp_in (nI i + 7) sc.1) (nx : ∀ (mm' : am_Mem) (X' : ms_X) (N' : Nat) (w5 w6 w7 : Value), SVN mm' M O X' P R N' (T + 100) (C + 1) → am_W sc 131 1621 [.retAddr 0, .ref 1, .ref M, .ref O, .int (nI i), w5, w6, w7] [] mm' Q) : am_W sc 131 1101 [.retAddr 0, .ref 1, .ref M, .ref O, .int (nI i), w5, w6, w7] [] mm Q := by
  have hW := hS.wf
  have hr2 := hS.r2
  refine am_aload_n iL_law_1101 rfl rfl ?_
  refine am_sload_n iL_law_1102 rfl rfl ?_
  refine am_iload iL_law_1103 rfl ?_
  refine am_iconst (i := 1) (v := 1) rfl iL_law_1105 ?_
  refine am_iadd iL_law_1106 ?_
  refine am_sld iL_law_1107 hx1 ?_
  refine am_sload_n iL_law_1108 rfl rfl ?_
  refine am_iload iL_law_1109 rfl ?_
  refine am_iconst (i := 2) (v := 2) rfl iL_law_1111 ?_
  refine am_iadd iL_law_1112 ?_
  refine am_sld iL_law_1113 hx2 ?_
  refine am_aload_n iL_law_1114 rfl rfl ?_
  refine am_eS4r iL_law_1115 cL_law_145 mL_at rfl rfl rfl (H_at hS hC hT _ _) ?_
  intro mm1 h1
  obtain ⟨m', rfl, hM⟩ := h1.ref
  have h2 := h1.fin
  refine am_istore_5 iL_law_1118 rfl rfl ?_
  refine am_aload_n iL_law_1120 rfl rfl ?_
  refine am_sload_n iL_law_1121 rfl rfl ?_
  refine am_iload iL_law_1122 rfl ?_
  refine am_iconst (i := 1) (v := 1) rfl iL_law_1124 ?_
  refine am_iadd iL_law_1125 ?_
  refine am_sld iL_law_1126 hx1 ?_
  refine am_sload_n iL_law_1127 rfl rfl ?_
  refine am_iload iL_law_1128 rfl ?_
  refine am_iconst (i := 2) (v := 2) rfl iL_law_1130 ?_
  refine am_iadd iL_law_1131 ?_
  refine am_sld iL_law_1132 hx2 ?_
  refine am_cV2r iL_law_1133 cL_law_147 mX7_at hM.1 rfl rfl rfl (x_at_ok hM hW.1 _ _) ?_
  refine am_istore_6 iL_law_1136 rfl rfl ?_
  refine am_aload_n iL_law_1138 rfl rfl ?_
  refine am_cV0r iL_law_1139 cL_law_97 mX7_thrown hM.1 rfl rfl rfl (x_thrown hM) ?_
  refine am_iload iL_law_1142 rfl ?_
  refine am_icmp_eq iL_law_1144 (fun _ => ?_) (fun hc => absurd rfl hc)
  obtain ⟨⟨N', hS'⟩, hK, hL, hJ⟩ := h2
  refine am_iload iL_law_1149 rfl ?_
  refine am_if_ne iL_law_1151 (fun _ => ?_) (fun hc => ?_)
  · refine am_goto iL_law_1166 ?_
    exact nx _ _ _ _ _ _ hS'
  · refine am_aload_n iL_law_1154 rfl rfl ?_
    refine am_iconst (i := 0) (v := 0) rfl iL_law_1155 ?_
    refine am_lald iL_law_1156 hK (by rw [hL]; exact vp_in_nI (n := 0) (N := 1) (by decide) (by decide)) ?_
    show am_W _ _ _ _ (.long (am_J _ O 0) :: _) _ _
    rw [hJ hc]
    refine am_iload iL_law_1157 rfl ?_
    refine am_i2l iL_law_1159 ?_
    refine am_lcmp iL_law_1160 ?_
    rw [lg_self]
    refine am_if_eq iL_law_1161 (fun _ => ?_) (fun hc => absurd rfl hc)
    refine am_goto iL_law_1166 ?_
    exact nx _ _ _ _ _ _ hS'
theorem law_c14 (hS : SVN mm M O X P R N T C) (hC : C ≤ 512) (hT : T + 100 ≤ 1000000) (hx1 : vp_in (nI i + 1) sc.1) (hx2 : vp_in (nI i + 2) sc.1) (hx3 : vp_in (nI i + 3) sc.1) (hx4 : vp_in (nI i + 4) sc.1) (hx5 : vp_in (nI i + 5) sc.1) (hx6 : vp_in (nI i + 6) sc.1) (hx7 : vp_in (nI i + 7) sc.1) (nx : ∀ (mm' : am_Mem) (X' : ms_X) (N' : Nat) (w5 w6 w7 : Value), SVN mm' M O X' P R N' (T + 100) (C + 1) → am_W sc 131 1621 [.retAddr 0, .ref 1, .ref M, .ref O, .int (nI i), w5, w6, w7] [] mm' Q) : am_W sc 131 1169 [.retAddr 0, .ref 1, .ref M, .ref O, .int (nI i), w5, w6, w7] [] mm Q := by
  have hW := hS.wf
  have hr2 := hS.r2
  refine am_aload_n iL_law_1169 rfl rfl ?_
  refine am_sload_n iL_law_1170 rfl rfl ?_
  refine am_iload iL_law_1171 rfl ?_
  refine am_iconst (i := 1) (v := 1) rfl iL_law_1173 ?_
  refine am_iadd iL_law_1174 ?_
  refine am_sld iL_law_1175 hx1 ?_
  refine am_sload_n iL_law_1176 rfl rfl ?_
  refine am_iload iL_law_1177 rfl ?_
  refine am_iconst (i := 2) (v := 2) rfl iL_law_1179 ?_
  refine am_iadd iL_law_1180 ?_
  refine am_sld iL_law_1181 hx2 ?_
  refine am_aload_n iL_law_1182 rfl rfl ?_
  refine am_eS4r iL_law_1183 cL_law_148 mL_kept rfl rfl rfl (H_kept hS hC hT _ _) ?_
  intro mm1 h1
  obtain ⟨m', rfl, hM⟩ := h1.ref
  have h2 := h1.fin
  refine am_istore_5 iL_law_1186 rfl rfl ?_
  refine am_aload_n iL_law_1188 rfl rfl ?_
  refine am_sload_n iL_law_1189 rfl rfl ?_
  refine am_iload iL_law_1190 rfl ?_
  refine am_iconst (i := 1) (v := 1) rfl iL_law_1192 ?_
  refine am_iadd iL_law_1193 ?_
  refine am_sld iL_law_1194 hx1 ?_
  refine am_sload_n iL_law_1195 rfl rfl ?_
  refine am_iload iL_law_1196 rfl ?_
  refine am_iconst (i := 2) (v := 2) rfl iL_law_1198 ?_
  refine am_iadd iL_law_1199 ?_
  refine am_sld iL_law_1200 hx2 ?_
  refine am_cV2r iL_law_1201 cL_law_150 mX7_kept hM.1 rfl rfl rfl (x_kept_ok hM hW.1 _ _) ?_
  refine am_istore_6 iL_law_1204 rfl rfl ?_
  refine am_aload_n iL_law_1206 rfl rfl ?_
  refine am_cV0r iL_law_1207 cL_law_97 mX7_thrown hM.1 rfl rfl rfl (x_thrown hM) ?_
  refine am_iload iL_law_1210 rfl ?_
  refine am_icmp_eq iL_law_1212 (fun _ => ?_) (fun hc => absurd rfl hc)
  obtain ⟨⟨N', hS'⟩, hK, hL, hJ⟩ := h2
  refine am_iload iL_law_1217 rfl ?_
  refine am_if_ne iL_law_1219 (fun _ => ?_) (fun hc => ?_)
  · refine am_goto iL_law_1234 ?_
    exact nx _ _ _ _ _ _ hS'
  · refine am_aload_n iL_law_1222 rfl rfl ?_
    refine am_iconst (i := 0) (v := 0) rfl iL_law_1223 ?_
    refine am_lald iL_law_1224 hK (by rw [hL]; exact vp_in_nI (n := 0) (N := 1) (by decide) (by decide)) ?_
    show am_W _ _ _ _ (.long (am_J _ O 0) :: _) _ _
    rw [hJ hc]
    refine am_iload iL_law_1225 rfl ?_
    refine am_i2l iL_law_1227 ?_
    refine am_lcmp iL_law_1228 ?_
    rw [lg_self]
    refine am_if_eq iL_law_1229 (fun _ => ?_) (fun hc => absurd rfl hc)
    refine am_goto iL_law_1234 ?_
    exact nx _ _ _ _ _ _ hS'
theorem law_c15 (hS : SVN mm M O X P R N T C) (hC : C ≤ 512) (hT : T + 100 ≤ 1000000) (hx1 : vp_in (nI i + 1) sc.1) (hx2 : vp_in (nI i + 2) sc.1) (hx3 : vp_in (nI i + 3) sc.1) (hx4 : vp_in (nI i + 4) sc.1) (hx5 : vp_in (nI i + 5) sc.1) (hx6 : vp_in (nI i + 6) sc.1) (hx7 : vp_in (nI i + 7) sc.1) (nx : ∀ (mm' : am_Mem) (X' : ms_X) (N' : Nat) (w5 w6 w7 : Value), SVN mm' M O X' P R N' (T + 100) (C + 1) → am_W sc 131 1621 [.retAddr 0, .ref 1, .ref M, .ref O, .int (nI i), w5, w6, w7] [] mm' Q) : am_W sc 131 1237 [.retAddr 0, .ref 1, .ref M, .ref O, .int (nI i), w5, w6, w7] [] mm Q := by
  have hW := hS.wf
  have hr2 := hS.r2
  refine am_aload_n iL_law_1237 rfl rfl ?_
  refine am_sload_n iL_law_1238 rfl rfl ?_
  refine am_iload iL_law_1239 rfl ?_
  refine am_iconst (i := 1) (v := 1) rfl iL_law_1241 ?_
  refine am_iadd iL_law_1242 ?_
  refine am_sld iL_law_1243 hx1 ?_
  refine am_sload_n iL_law_1244 rfl rfl ?_
  refine am_iload iL_law_1245 rfl ?_
  refine am_iconst (i := 2) (v := 2) rfl iL_law_1247 ?_
  refine am_iadd iL_law_1248 ?_
  refine am_sld iL_law_1249 hx2 ?_
  refine am_aload_n iL_law_1250 rfl rfl ?_
  refine am_eS4r iL_law_1251 cL_law_151 mL_log rfl rfl rfl (H_log hS hC hT _ _) ?_
  intro mm1 h1
  obtain ⟨m', rfl, hM⟩ := h1.ref
  have h2 := h1.fin
  refine am_istore_5 iL_law_1254 rfl rfl ?_
  refine am_aload_n iL_law_1256 rfl rfl ?_
  refine am_sload_n iL_law_1257 rfl rfl ?_
  refine am_iload iL_law_1258 rfl ?_
  refine am_iconst (i := 1) (v := 1) rfl iL_law_1260 ?_
  refine am_iadd iL_law_1261 ?_
  refine am_sld iL_law_1262 hx1 ?_
  refine am_sload_n iL_law_1263 rfl rfl ?_
  refine am_iload iL_law_1264 rfl ?_
  refine am_iconst (i := 2) (v := 2) rfl iL_law_1266 ?_
  refine am_iadd iL_law_1267 ?_
  refine am_sld iL_law_1268 hx2 ?_
  refine am_cV2r iL_law_1269 cL_law_153 mX7_log hM.1 rfl rfl rfl (x_log_ok hM hW.1 _ _) ?_
  refine am_istore_6 iL_law_1272 rfl rfl ?_
  refine am_aload_n iL_law_1274 rfl rfl ?_
  refine am_cV0r iL_law_1275 cL_law_97 mX7_thrown hM.1 rfl rfl rfl (x_thrown hM) ?_
  refine am_iload iL_law_1278 rfl ?_
  refine am_icmp_eq iL_law_1280 (fun _ => ?_) (fun hc => absurd rfl hc)
  obtain ⟨⟨N', hS'⟩, hK, hL, hJ⟩ := h2
  refine am_iload iL_law_1285 rfl ?_
  refine am_if_ne iL_law_1287 (fun _ => ?_) (fun hc => ?_)
  · refine am_goto iL_law_1302 ?_
    exact nx _ _ _ _ _ _ hS'
  · refine am_aload_n iL_law_1290 rfl rfl ?_
    refine am_iconst (i := 0) (v := 0) rfl iL_law_1291 ?_
    refine am_lald iL_law_1292 hK (by rw [hL]; exact vp_in_nI (n := 0) (N := 1) (by decide) (by decide)) ?_
    show am_W _ _ _ _ (.long (am_J _ O 0) :: _) _ _
    rw [hJ hc]
    refine am_iload iL_law_1293 rfl ?_
    refine am_i2l iL_law_1295 ?_
    refine am_lcmp iL_law_1296 ?_
    rw [lg_self]
    refine am_if_eq iL_law_1297 (fun _ => ?_) (fun hc => absurd rfl hc)
    refine am_goto iL_law_1302 ?_
    exact nx _ _ _ _ _ _ hS'
theorem law_c16 (hS : SVN mm M O X P R N T C) (hC : C ≤ 512) (hT : T + 100 ≤ 1000000) (hx1 : vp_in (nI i + 1) sc.1) (hx2 : vp_in (nI i + 2) sc.1) (hx3 : vp_in (nI i + 3) sc.1) (hx4 : vp_in (nI i + 4) sc.1) (hx5 : vp_in (nI i + 5) sc.1) (hx6 : vp_in (nI i + 6) sc.1) (hx7 : vp_in (nI i + 7) sc.1) (nx : ∀ (mm' : am_Mem) (X' : ms_X) (N' : Nat) (w5 w6 w7 : Value), SVN mm' M O X' P R N' (T + 100) (C + 1) → am_W sc 131 1621 [.retAddr 0, .ref 1, .ref M, .ref O, .int (nI i), w5, w6, w7] [] mm' Q) : am_W sc 131 1305 [.retAddr 0, .ref 1, .ref M, .ref O, .int (nI i), w5, w6, w7] [] mm Q := by
  have hW := hS.wf
  have hr2 := hS.r2
  refine am_aload_n iL_law_1305 rfl rfl ?_
  refine am_sload_n iL_law_1306 rfl rfl ?_
  refine am_iload iL_law_1307 rfl ?_
  refine am_iconst (i := 1) (v := 1) rfl iL_law_1309 ?_
  refine am_iadd iL_law_1310 ?_
  refine am_sld iL_law_1311 hx1 ?_
  refine am_sload_n iL_law_1312 rfl rfl ?_
  refine am_iload iL_law_1313 rfl ?_
  refine am_iconst (i := 2) (v := 2) rfl iL_law_1315 ?_
  refine am_iadd iL_law_1316 ?_
  refine am_sld iL_law_1317 hx2 ?_
  refine am_sload_n iL_law_1318 rfl rfl ?_
  refine am_iload iL_law_1319 rfl ?_
  refine am_iconst (i := 3) (v := 3) rfl iL_law_1321 ?_
  refine am_iadd iL_law_1322 ?_
  refine am_sld iL_law_1323 hx3 ?_
  refine am_aload_n iL_law_1324 rfl rfl ?_
  refine am_eS5r iL_law_1325 cL_law_154 mL_logged rfl rfl rfl (H_logged hS hC hT _ _ _) ?_
  intro mm1 h1
  obtain ⟨m', rfl, hM⟩ := h1.ref
  have h2 := h1.fin
  refine am_istore_5 iL_law_1328 rfl rfl ?_
  refine am_aload_n iL_law_1330 rfl rfl ?_
  refine am_sload_n iL_law_1331 rfl rfl ?_
  refine am_iload iL_law_1332 rfl ?_
  refine am_iconst (i := 1) (v := 1) rfl iL_law_1334 ?_
  refine am_iadd iL_law_1335 ?_
  refine am_sld iL_law_1336 hx1 ?_
  refine am_sload_n iL_law_1337 rfl rfl ?_
  refine am_iload iL_law_1338 rfl ?_
  refine am_iconst (i := 2) (v := 2) rfl iL_law_1340 ?_
  refine am_iadd iL_law_1341 ?_
  refine am_sld iL_law_1342 hx2 ?_
  refine am_sload_n iL_law_1343 rfl rfl ?_
  refine am_iload iL_law_1344 rfl ?_
  refine am_iconst (i := 3) (v := 3) rfl iL_law_1346 ?_
  refine am_iadd iL_law_1347 ?_
  refine am_sld iL_law_1348 hx3 ?_
  refine am_cV3r iL_law_1349 cL_law_156 mX7_logged hM.1 rfl rfl rfl (x_lgd_ok hM hW.1 hW.2.2.1 hr2 _ _ _) ?_
  refine am_istore_6 iL_law_1352 rfl rfl ?_
  refine am_aload_n iL_law_1354 rfl rfl ?_
  refine am_cV0r iL_law_1355 cL_law_97 mX7_thrown hM.1 rfl rfl rfl (x_thrown hM) ?_
  refine am_iload iL_law_1358 rfl ?_
  refine am_icmp_eq iL_law_1360 (fun _ => ?_) (fun hc => absurd rfl hc)
  obtain ⟨⟨N', hS'⟩, hK, hL, hJ⟩ := h2
  refine am_iload iL_law_1365 rfl ?_
  refine am_if_ne iL_law_1367 (fun _ => ?_) (fun hc => ?_)
  · refine am_goto iL_law_1382 ?_
    exact nx _ _ _ _ _ _ hS'
  · refine am_aload_n iL_law_1370 rfl rfl ?_
    refine am_iconst (i := 0) (v := 0) rfl iL_law_1371 ?_
    refine am_lald iL_law_1372 hK (by rw [hL]; exact vp_in_nI (n := 0) (N := 1) (by decide) (by decide)) ?_
    show am_W _ _ _ _ (.long (am_J _ O 0) :: _) _ _
    rw [hJ hc]
    refine am_iload iL_law_1373 rfl ?_
    refine am_i2l iL_law_1375 ?_
    refine am_lcmp iL_law_1376 ?_
    rw [lg_self]
    refine am_if_eq iL_law_1377 (fun _ => ?_) (fun hc => absurd rfl hc)
    refine am_goto iL_law_1382 ?_
    exact nx _ _ _ _ _ _ hS'
theorem law_c17 (hS : SVN mm M O X P R N T C) (hC : C ≤ 512) (hT : T + 100 ≤ 1000000) (hx1 : vp_in (nI i + 1) sc.1) (hx2 : vp_in (nI i + 2) sc.1) (hx3 : vp_in (nI i + 3) sc.1) (hx4 : vp_in (nI i + 4) sc.1) (hx5 : vp_in (nI i + 5) sc.1) (hx6 : vp_in (nI i + 6) sc.1) (hx7 : vp_in (nI i + 7) sc.1) (nx : ∀ (mm' : am_Mem) (X' : ms_X) (N' : Nat) (w5 w6 w7 : Value), SVN mm' M O X' P R N' (T + 100) (C + 1) → am_W sc 131 1621 [.retAddr 0, .ref 1, .ref M, .ref O, .int (nI i), w5, w6, w7] [] mm' Q) : am_W sc 131 1385 [.retAddr 0, .ref 1, .ref M, .ref O, .int (nI i), w5, w6, w7] [] mm Q := by
  have hW := hS.wf
  have hr2 := hS.r2
  refine am_aload_n iL_law_1385 rfl rfl ?_
  refine am_sload_n iL_law_1386 rfl rfl ?_
  refine am_iload iL_law_1387 rfl ?_
  refine am_iconst (i := 1) (v := 1) rfl iL_law_1389 ?_
  refine am_iadd iL_law_1390 ?_
  refine am_sld iL_law_1391 hx1 ?_
  refine am_sload_n iL_law_1392 rfl rfl ?_
  refine am_iload iL_law_1393 rfl ?_
  refine am_iconst (i := 2) (v := 2) rfl iL_law_1395 ?_
  refine am_iadd iL_law_1396 ?_
  refine am_sld iL_law_1397 hx2 ?_
  refine am_sload_n iL_law_1398 rfl rfl ?_
  refine am_iload iL_law_1399 rfl ?_
  refine am_iconst (i := 3) (v := 3) rfl iL_law_1401 ?_
  refine am_iadd iL_law_1402 ?_
  refine am_sld iL_law_1403 hx3 ?_
  refine am_aload_n iL_law_1404 rfl rfl ?_
  refine am_eS5r iL_law_1405 cL_law_157 mL_session rfl rfl rfl (H_session hS hC hT _ _ _) ?_
  intro mm1 h1
  obtain ⟨m', rfl, hM⟩ := h1.ref
  have h2 := h1.fin
  refine am_istore_5 iL_law_1408 rfl rfl ?_
  refine am_aload_n iL_law_1410 rfl rfl ?_
  refine am_sload_n iL_law_1411 rfl rfl ?_
  refine am_iload iL_law_1412 rfl ?_
  refine am_iconst (i := 1) (v := 1) rfl iL_law_1414 ?_
  refine am_iadd iL_law_1415 ?_
  refine am_sld iL_law_1416 hx1 ?_
  refine am_sload_n iL_law_1417 rfl rfl ?_
  refine am_iload iL_law_1418 rfl ?_
  refine am_iconst (i := 2) (v := 2) rfl iL_law_1420 ?_
  refine am_iadd iL_law_1421 ?_
  refine am_sld iL_law_1422 hx2 ?_
  refine am_sload_n iL_law_1423 rfl rfl ?_
  refine am_iload iL_law_1424 rfl ?_
  refine am_iconst (i := 3) (v := 3) rfl iL_law_1426 ?_
  refine am_iadd iL_law_1427 ?_
  refine am_sld iL_law_1428 hx3 ?_
  refine am_cV3r iL_law_1429 cL_law_159 mX7_session hM.1 rfl rfl rfl (x_session_ok hM hW.1 _ _ _) ?_
  refine am_istore_6 iL_law_1432 rfl rfl ?_
  refine am_aload_n iL_law_1434 rfl rfl ?_
  refine am_cV0r iL_law_1435 cL_law_97 mX7_thrown hM.1 rfl rfl rfl (x_thrown hM) ?_
  refine am_iload iL_law_1438 rfl ?_
  refine am_icmp_eq iL_law_1440 (fun _ => ?_) (fun hc => absurd rfl hc)
  obtain ⟨⟨N', hS'⟩, hK, hL, hJ⟩ := h2
  refine am_iload iL_law_1445 rfl ?_
  refine am_if_ne iL_law_1447 (fun _ => ?_) (fun hc => ?_)
  · refine am_goto iL_law_1462 ?_
    exact nx _ _ _ _ _ _ hS'
  · refine am_aload_n iL_law_1450 rfl rfl ?_
    refine am_iconst (i := 0) (v := 0) rfl iL_law_1451 ?_
    refine am_lald iL_law_1452 hK (by rw [hL]; exact vp_in_nI (n := 0) (N := 1) (by decide) (by decide)) ?_
    show am_W _ _ _ _ (.long (am_J _ O 0) :: _) _ _
    rw [hJ hc]
    refine am_iload iL_law_1453 rfl ?_
    refine am_i2l iL_law_1455 ?_
    refine am_lcmp iL_law_1456 ?_
    rw [lg_self]
    refine am_if_eq iL_law_1457 (fun _ => ?_) (fun hc => absurd rfl hc)
    refine am_goto iL_law_1462 ?_
    exact nx _ _ _ _ _ _ hS'
theorem law_c18 (hS : SVN mm M O X P R N T C) (hC : C ≤ 512) (hT : T + 100 ≤ 1000000) (hx1 : vp_in (nI i + 1) sc.1) (hx2 : vp_in (nI i + 2) sc.1) (hx3 : vp_in (nI i + 3) sc.1) (hx4 : vp_in (nI i + 4) sc.1) (hx5 : vp_in (nI i + 5) sc.1) (hx6 : vp_in (nI i + 6) sc.1) (hx7 : vp_in (nI i + 7) sc.1) (nx : ∀ (mm' : am_Mem) (X' : ms_X) (N' : Nat) (w5 w6 w7 : Value), SVN mm' M O X' P R N' (T + 100) (C + 1) → am_W sc 131 1621 [.retAddr 0, .ref 1, .ref M, .ref O, .int (nI i), w5, w6, w7] [] mm' Q) : am_W sc 131 1465 [.retAddr 0, .ref 1, .ref M, .ref O, .int (nI i), w5, w6, w7] [] mm Q := by
  have hW := hS.wf
  have hr2 := hS.r2
  refine am_aload_n iL_law_1465 rfl rfl ?_
  refine am_sload_n iL_law_1466 rfl rfl ?_
  refine am_iload iL_law_1467 rfl ?_
  refine am_iconst (i := 1) (v := 1) rfl iL_law_1469 ?_
  refine am_iadd iL_law_1470 ?_
  refine am_sld iL_law_1471 hx1 ?_
  refine am_i2l iL_law_1472 ?_
  refine am_bipush (i := 32) (v := 32) rfl iL_law_1473 ?_
  refine am_lshl iL_law_1475 ?_
  refine am_sload_n iL_law_1476 rfl rfl ?_
  refine am_iload iL_law_1477 rfl ?_
  refine am_iconst (i := 2) (v := 2) rfl iL_law_1479 ?_
  refine am_iadd iL_law_1480 ?_
  refine am_sld iL_law_1481 hx2 ?_
  refine am_i2l iL_law_1482 ?_
  refine am_ldc2 (v := 4294967295) (wd_985) iL_law_1483 ?_
  refine am_land iL_law_1486 ?_
  refine am_lor iL_law_1487 ?_
  refine am_sload_n iL_law_1488 rfl rfl ?_
  refine am_iload iL_law_1489 rfl ?_
  refine am_iconst (i := 3) (v := 3) rfl iL_law_1491 ?_
  refine am_iadd iL_law_1492 ?_
  refine am_sld iL_law_1493 hx3 ?_
  refine am_aload_n iL_law_1494 rfl rfl ?_
  refine am_eS4r iL_law_1495 cL_law_160 mL_told rfl rfl rfl (H_told hS hC hT _ _) ?_
  intro mm1 h1
  obtain ⟨m', rfl, hM⟩ := h1.ref
  have h2 := h1.fin
  refine am_istore_5 iL_law_1498 rfl rfl ?_
  refine am_aload_n iL_law_1500 rfl rfl ?_
  refine am_sload_n iL_law_1501 rfl rfl ?_
  refine am_iload iL_law_1502 rfl ?_
  refine am_iconst (i := 1) (v := 1) rfl iL_law_1504 ?_
  refine am_iadd iL_law_1505 ?_
  refine am_sld iL_law_1506 hx1 ?_
  refine am_i2l iL_law_1507 ?_
  refine am_bipush (i := 32) (v := 32) rfl iL_law_1508 ?_
  refine am_lshl iL_law_1510 ?_
  refine am_sload_n iL_law_1511 rfl rfl ?_
  refine am_iload iL_law_1512 rfl ?_
  refine am_iconst (i := 2) (v := 2) rfl iL_law_1514 ?_
  refine am_iadd iL_law_1515 ?_
  refine am_sld iL_law_1516 hx2 ?_
  refine am_i2l iL_law_1517 ?_
  refine am_ldc2 (v := 4294967295) (wd_985) iL_law_1518 ?_
  refine am_land iL_law_1521 ?_
  refine am_lor iL_law_1522 ?_
  refine am_sload_n iL_law_1523 rfl rfl ?_
  refine am_iload iL_law_1524 rfl ?_
  refine am_iconst (i := 3) (v := 3) rfl iL_law_1526 ?_
  refine am_iadd iL_law_1527 ?_
  refine am_sld iL_law_1528 hx3 ?_
  refine am_cV2r iL_law_1529 cL_law_163 mX7_told hM.1 rfl rfl rfl (x_told_ok hM hW.1 _ _) ?_
  refine am_istore_6 iL_law_1532 rfl rfl ?_
  refine am_aload_n iL_law_1534 rfl rfl ?_
  refine am_cV0r iL_law_1535 cL_law_97 mX7_thrown hM.1 rfl rfl rfl (x_thrown hM) ?_
  refine am_iload iL_law_1538 rfl ?_
  refine am_icmp_eq iL_law_1540 (fun _ => ?_) (fun hc => absurd rfl hc)
  obtain ⟨⟨N', hS'⟩, hK, hL, hJ⟩ := h2
  refine am_iload iL_law_1545 rfl ?_
  refine am_if_ne iL_law_1547 (fun _ => ?_) (fun hc => ?_)
  · refine am_goto iL_law_1562 ?_
    exact nx _ _ _ _ _ _ hS'
  · refine am_aload_n iL_law_1550 rfl rfl ?_
    refine am_iconst (i := 0) (v := 0) rfl iL_law_1551 ?_
    refine am_lald iL_law_1552 hK (by rw [hL]; exact vp_in_nI (n := 0) (N := 1) (by decide) (by decide)) ?_
    show am_W _ _ _ _ (.long (am_J _ O 0) :: _) _ _
    rw [hJ hc]
    refine am_iload iL_law_1553 rfl ?_
    refine am_i2l iL_law_1555 ?_
    refine am_lcmp iL_law_1556 ?_
    rw [lg_self]
    refine am_if_eq iL_law_1557 (fun _ => ?_) (fun hc => absurd rfl hc)
    refine am_goto iL_law_1562 ?_
    exact nx _ _ _ _ _ _ hS'
theorem law_c19 (hS : SVN mm M O X P R N T C) (hC : C ≤ 512) (hT : T + 100 ≤ 1000000) (hx1 : vp_in (nI i + 1) sc.1) (hx2 : vp_in (nI i + 2) sc.1) (hx3 : vp_in (nI i + 3) sc.1) (hx4 : vp_in (nI i + 4) sc.1) (hx5 : vp_in (nI i + 5) sc.1) (hx6 : vp_in (nI i + 6) sc.1) (hx7 : vp_in (nI i + 7) sc.1) (nx : ∀ (mm' : am_Mem) (X' : ms_X) (N' : Nat) (w5 w6 w7 : Value), SVN mm' M O X' P R N' (T + 100) (C + 1) → am_W sc 131 1621 [.retAddr 0, .ref 1, .ref M, .ref O, .int (nI i), w5, w6, w7] [] mm' Q) : am_W sc 131 1565 [.retAddr 0, .ref 1, .ref M, .ref O, .int (nI i), w5, w6, w7] [] mm Q := by
  have hW := hS.wf
  have hr2 := hS.r2
  refine am_aload_n iL_law_1565 rfl rfl ?_
  refine am_sload_n iL_law_1566 rfl rfl ?_
  refine am_iload iL_law_1567 rfl ?_
  refine am_iconst (i := 1) (v := 1) rfl iL_law_1569 ?_
  refine am_iadd iL_law_1570 ?_
  refine am_sld iL_law_1571 hx1 ?_
  refine am_aload_n iL_law_1572 rfl rfl ?_
  refine am_eS3r iL_law_1573 cL_law_164 mL_count rfl rfl rfl (H_count hS hC hT _) ?_
  intro mm1 h1
  obtain ⟨m', rfl, hM⟩ := h1.ref
  have h2 := h1.fin
  refine am_istore_5 iL_law_1576 rfl rfl ?_
  refine am_aload_n iL_law_1578 rfl rfl ?_
  refine am_sload_n iL_law_1579 rfl rfl ?_
  refine am_iload iL_law_1580 rfl ?_
  refine am_iconst (i := 1) (v := 1) rfl iL_law_1582 ?_
  refine am_iadd iL_law_1583 ?_
  refine am_sld iL_law_1584 hx1 ?_
  refine am_cV1r iL_law_1585 cL_law_166 mX7_count hM.1 rfl rfl rfl (x_cnt_ok hM hW.2.1 _) ?_
  refine am_istore_6 iL_law_1588 rfl rfl ?_
  refine am_aload_n iL_law_1590 rfl rfl ?_
  refine am_cV0r iL_law_1591 cL_law_97 mX7_thrown hM.1 rfl rfl rfl (x_thrown hM) ?_
  refine am_iload iL_law_1594 rfl ?_
  refine am_icmp_eq iL_law_1596 (fun _ => ?_) (fun hc => absurd rfl hc)
  obtain ⟨⟨N', hS'⟩, hK, hL, hJ⟩ := h2
  refine am_iload iL_law_1601 rfl ?_
  refine am_if_ne iL_law_1603 (fun _ => ?_) (fun hc => ?_)
  · refine am_goto iL_law_1618 ?_
    exact nx _ _ _ _ _ _ hS'
  · refine am_aload_n iL_law_1606 rfl rfl ?_
    refine am_iconst (i := 0) (v := 0) rfl iL_law_1607 ?_
    refine am_lald iL_law_1608 hK (by rw [hL]; exact vp_in_nI (n := 0) (N := 1) (by decide) (by decide)) ?_
    show am_W _ _ _ _ (.long (am_J _ O 0) :: _) _ _
    rw [hJ hc]
    refine am_iload iL_law_1609 rfl ?_
    refine am_i2l iL_law_1611 ?_
    refine am_lcmp iL_law_1612 ?_
    rw [lg_self]
    refine am_if_eq iL_law_1613 (fun _ => ?_) (fun hc => absurd rfl hc)
    refine am_goto iL_law_1618 ?_
    exact nx _ _ _ _ _ _ hS'
end
