/-! the class: tests that throw, tokens, vectors -/
section
variable {sc : Nat × (Nat → Int32)} {m : am_Mem} {G : cg_G} {X E : ms_X} {P R : Nat}
/-- room for what one call makes -/
def c_rm (m : am_Mem) : Prop := am_n m + 8 ≤ am_CM ∧ am_u m + 64 ≤ am_SM
theorem x_rgB {a : Int32} {B : Nat} (hB : B < 2 ^ 31) : x_rg a 0 ((B : Int) - 1) = true ↔ ¬ a < 0 ∧ a < nI B := by
  unfold x_rg
  rw [decide_eq_true_iff, Int32.lt_iff_toInt_lt, Int32.lt_iff_toInt_lt, Int32.toInt_zero, nI_toInt hB]
  omega
theorem y_needIndex (a : Int32) {B : Nat} (hB : B < 2 ^ 31) (h : x_rg a 0 ((B : Int) - 1) = true) : am_W sc 44 0 [.int a, .int (nI B)] [] m (am_R1 none m) := by
  obtain ⟨h1, h2⟩ := (x_rgB hB).mp h
  refine am_iload_n iX6_needIndex_0 rfl rfl ?_
  refine am_if_lt iX6_needIndex_1 (fun hc => absurd hc (h1)) (fun _ => ?_)
  refine am_iload_n iX6_needIndex_4 rfl rfl ?_
  refine am_iload_n iX6_needIndex_5 rfl rfl ?_
  refine am_icmp_lt iX6_needIndex_6 (fun _ => ?_) (fun hc => absurd (h2) hc)
  exact am_vret iX6_needIndex_19 rfl (⟨rfl, rfl⟩)
theorem y_needIndex_x (hr : c_rm m) (a : Int32) {B : Nat} (hB : B < 2 ^ 31) (h : x_rg a 0 ((B : Int) - 1) = false) : am_W sc 44 0 [.int a, .int (nI B)] [] m (am_R2 (am_n m + 1) (am_new m 8 0 6)) := by
  have h0 : ¬ (¬ a < 0 ∧ a < nI B) := fun q => by rw [(x_rgB hB).mpr q] at h; cases h
  have bad : am_W sc 44 9 [.int a, .int (nI B)] [] m (am_R2 (am_n m + 1) (am_new m 8 0 6)) := by
    refine am_throw tX6_needIndex_9 rfl iX6_needIndex_9 iX6_needIndex_12 iX6_needIndex_13 iX6_needIndex_15 iX6_needIndex_18 (Nat.le_of_ble_eq_true rfl) (Nat.le_of_ble_eq_true rfl) ?_ ?_ ?_
    · have := hr.1; omega
    · have := hr.2; omega
    · exact ⟨rfl, rfl⟩
  refine am_iload_n iX6_needIndex_0 rfl rfl ?_
  refine am_if_lt iX6_needIndex_1 (fun h1 => ?_) (fun h1 => ?_)
  · exact bad
  · refine am_iload_n iX6_needIndex_4 rfl rfl ?_
    refine am_iload_n iX6_needIndex_5 rfl rfl ?_
    refine am_icmp_lt iX6_needIndex_6 (fun h2 => ?_) (fun h2 => ?_)
    · exact absurd ⟨h1, h2⟩ h0
    · exact bad
theorem y_needNumber (a l u : Int32) (h : x_rg a l.toInt u.toInt = true) : am_W sc 45 0 [.int a, .int l, .int u] [] m (am_R1 none m) := by
  have h1 := of_decide_eq_true h
  have h2 : ¬ a < l := by rw [Int32.lt_iff_toInt_lt]; omega
  have h3 : a ≤ u := by rw [Int32.le_iff_toInt_le]; omega
  refine am_iload_n iX6_needNumber_0 rfl rfl ?_
  refine am_iload_n iX6_needNumber_1 rfl rfl ?_
  refine am_icmp_lt iX6_needNumber_2 (fun hc => absurd hc (h2)) (fun _ => ?_)
  refine am_iload_n iX6_needNumber_5 rfl rfl ?_
  refine am_iload_n iX6_needNumber_6 rfl rfl ?_
  refine am_icmp_le iX6_needNumber_7 (fun _ => ?_) (fun hc => absurd (h3) hc)
  exact am_vret iX6_needNumber_20 rfl (⟨rfl, rfl⟩)
theorem y_needNumber_x (hr : c_rm m) (a l u : Int32) (h : x_rg a l.toInt u.toInt = false) : am_W sc 45 0 [.int a, .int l, .int u] [] m (am_R2 (am_n m + 1) (am_new m 9 0 6)) := by
  have h0 := of_decide_eq_false h
  have bad : am_W sc 45 10 [.int a, .int l, .int u] [] m (am_R2 (am_n m + 1) (am_new m 9 0 6)) := by
    refine am_throw tX6_needNumber_10 rfl iX6_needNumber_10 iX6_needNumber_13 iX6_needNumber_14 iX6_needNumber_16 iX6_needNumber_19 (Nat.le_of_ble_eq_true rfl) (Nat.le_of_ble_eq_true rfl) ?_ ?_ ?_
    · have := hr.1; omega
    · have := hr.2; omega
    · exact ⟨rfl, rfl⟩
  refine am_iload_n iX6_needNumber_0 rfl rfl ?_
  refine am_iload_n iX6_needNumber_1 rfl rfl ?_
  refine am_icmp_lt iX6_needNumber_2 (fun h1 => ?_) (fun h1 => ?_)
  · exact bad
  · refine am_iload_n iX6_needNumber_5 rfl rfl ?_
    refine am_iload_n iX6_needNumber_6 rfl rfl ?_
    refine am_icmp_le iX6_needNumber_7 (fun h2 => ?_) (fun h2 => ?_)
    · rw [Int32.lt_iff_toInt_lt] at h1
      rw [Int32.le_iff_toInt_le] at h2
      exact absurd ⟨by omega, h2⟩ h0
    · exact bad
theorem y_checkOf (x : Int64) : am_W sc 48 0 [.long x, .retAddr 1] [] m (am_R1 (some (.long (x_chk x))) m) := by
  refine am_lload_n iX6_checkOf_0 rfl rfl ?_
  refine am_ldc2 (v := -7046029254386353131) (wd_329) iX6_checkOf_1 ?_
  refine am_lmul iX6_checkOf_4 ?_
  refine am_bipush (i := 44) (v := 44) rfl iX6_checkOf_5 ?_
  refine am_lushr iX6_checkOf_7 ?_
  exact am_lret iX6_checkOf_8 rfl (⟨rfl, rfl⟩)
theorem y_positionIn (t : Int64) {p : Nat} (hp : p < 3) : am_W sc 50 0 [.long t, .retAddr 1, .int (nI p)] [] m (am_R1 (some (.int (x_pos t (nI p)))) m) := by
  refine am_lload_n iX6_positionIn_0 rfl rfl ?_
  refine am_bipush (i := 20) (v := 20) rfl iX6_positionIn_1 ?_
  refine am_bipush (i := 9) (v := 9) rfl iX6_positionIn_3 ?_
  refine am_iload_n iX6_positionIn_5 rfl rfl ?_
  refine am_imul iX6_positionIn_6 ?_
  refine am_iadd iX6_positionIn_7 ?_
  refine am_lushr iX6_positionIn_8 ?_
  refine am_l2i iX6_positionIn_9 ?_
  refine am_sipush (i := 511) (v := 511) rfl iX6_positionIn_10 ?_
  refine am_iand iX6_positionIn_13 ?_
  rw [pos_eq t hp]
  exact am_iret iX6_positionIn_14 rfl (⟨rfl, rfl⟩)
theorem y_tokenOf {a : Nat} (hk : am_K m a = 11) (hl : am_L m a = 3) : am_W sc 49 0 [.ref a, .retAddr 1, .retAddr 1, .retAddr 1] [] m (am_R1 (some (.long (x_tok (am_I m a 0) (am_I m a 1) (am_I m a 2)))) m) := by
  have hv : ∀ j, j < 3 → vp_in (nI j) (am_L m a) := fun j hj => by rw [hl]; exact vp_in_nI hj (by decide)
  refine am_lconst (i := 0) (v := 0) rfl iX6_tokenOf_0 ?_
  refine am_lstore_n_1 iX6_tokenOf_1 rfl rfl ?_
  refine am_iconst (i := 2) (v := 2) rfl iX6_tokenOf_2 ?_
  refine am_istore_n_3 iX6_tokenOf_3 rfl rfl ?_
  refine am_iload_n iX6_tokenOf_4 rfl rfl ?_
  refine am_if_lt iX6_tokenOf_5 (fun hc => absurd hc (by decide)) (fun _ => ?_)
  refine am_lload_n iX6_tokenOf_8 rfl rfl ?_
  refine am_bipush (i := 9) (v := 9) rfl iX6_tokenOf_9 ?_
  refine am_lshl iX6_tokenOf_11 ?_
  refine am_aload_n iX6_tokenOf_12 rfl rfl ?_
  refine am_iload_n iX6_tokenOf_13 rfl rfl ?_
  refine am_iald iX6_tokenOf_14 (hk) (hv 2 (by omega)) ?_
  refine am_i2l iX6_tokenOf_15 ?_
  refine am_ladd iX6_tokenOf_16 ?_
  refine am_lstore_n_1 iX6_tokenOf_17 rfl rfl ?_
  refine am_iinc_3 (-1) iX6_tokenOf_18 rfl rfl rfl ?_
  refine am_goto iX6_tokenOf_21 ?_
  refine am_iload_n iX6_tokenOf_4 rfl rfl ?_
  refine am_if_lt iX6_tokenOf_5 (fun hc => absurd hc (by decide)) (fun _ => ?_)
  refine am_lload_n iX6_tokenOf_8 rfl rfl ?_
  refine am_bipush (i := 9) (v := 9) rfl iX6_tokenOf_9 ?_
  refine am_lshl iX6_tokenOf_11 ?_
  refine am_aload_n iX6_tokenOf_12 rfl rfl ?_
  refine am_iload_n iX6_tokenOf_13 rfl rfl ?_
  refine am_iald iX6_tokenOf_14 (hk) (hv 1 (by omega)) ?_
  refine am_i2l iX6_tokenOf_15 ?_
  refine am_ladd iX6_tokenOf_16 ?_
  refine am_lstore_n_1 iX6_tokenOf_17 rfl rfl ?_
  refine am_iinc_3 (-1) iX6_tokenOf_18 rfl rfl rfl ?_
  refine am_goto iX6_tokenOf_21 ?_
  refine am_iload_n iX6_tokenOf_4 rfl rfl ?_
  refine am_if_lt iX6_tokenOf_5 (fun hc => absurd hc (by decide)) (fun _ => ?_)
  refine am_lload_n iX6_tokenOf_8 rfl rfl ?_
  refine am_bipush (i := 9) (v := 9) rfl iX6_tokenOf_9 ?_
  refine am_lshl iX6_tokenOf_11 ?_
  refine am_aload_n iX6_tokenOf_12 rfl rfl ?_
  refine am_iload_n iX6_tokenOf_13 rfl rfl ?_
  refine am_iald iX6_tokenOf_14 (hk) (hv 0 (by omega)) ?_
  refine am_i2l iX6_tokenOf_15 ?_
  refine am_ladd iX6_tokenOf_16 ?_
  refine am_lstore_n_1 iX6_tokenOf_17 rfl rfl ?_
  refine am_iinc_3 (-1) iX6_tokenOf_18 rfl rfl rfl ?_
  refine am_goto iX6_tokenOf_21 ?_
  refine am_iload_n iX6_tokenOf_4 rfl rfl ?_
  refine am_if_lt iX6_tokenOf_5 (fun _ => ?_) (fun hc => absurd (by decide) hc)
  refine am_lload_n iX6_tokenOf_24 rfl rfl ?_
  refine am_bipush (i := 20) (v := 20) rfl iX6_tokenOf_25 ?_
  refine am_lshl iX6_tokenOf_27 ?_
  refine am_lload_n iX6_tokenOf_28 rfl rfl ?_
  show am_W _ _ _ _ (.long ((((0 : Int64) <<< ((9 : Int32).toInt64 &&& 63) + (am_I m a 2).toInt64) <<< ((9 : Int32).toInt64 &&& 63) + (am_I m a 1).toInt64) <<< ((9 : Int32).toInt64 &&& 63) + (am_I m a 0).toInt64) :: .long (((((0 : Int64) <<< ((9 : Int32).toInt64 &&& 63) + (am_I m a 2).toInt64) <<< ((9 : Int32).toInt64 &&& 63) + (am_I m a 1).toInt64) <<< ((9 : Int32).toInt64 &&& 63) + (am_I m a 0).toInt64) <<< ((20 : Int32).toInt64 &&& 63)) :: _) _ _
  rw [shl20]
  refine am_cS1r iX6_tokenOf_29 cX6_tokenOf_251 mX6_checkOf rfl rfl rfl (y_checkOf _) ?_
  refine am_ladd iX6_tokenOf_32 ?_
  exact am_lret iX6_tokenOf_33 rfl (⟨by rw [tok_eq]; rfl, rfl⟩)
/-- a vector covers another -/
def y_cov (f g : Nat → Int32) : Nat → Bool
  | 0 => true
  | n + 1 => y_cov f g n && decide (g n ≤ f n)
theorem y_covers {a b : Nat} (hk : am_K m a = 11) (hl : am_L m a = 3) (hk' : am_K m b = 11) (hl' : am_L m b = 3) : am_W sc 52 0 [.ref a, .ref b, .retAddr 1] [] m (am_R1 (some (.int (x_b (y_cov (am_I m a) (am_I m b) 3)))) m) := by
  have hv : ∀ j, j < 3 → vp_in (nI j) (am_L m a) := fun j hj => by rw [hl]; exact vp_in_nI hj (by decide)
  have hv' : ∀ j, j < 3 → vp_in (nI j) (am_L m b) := fun j hj => by rw [hl']; exact vp_in_nI hj (by decide)
  have mono : ∀ p, p < 3 → y_cov (am_I m a) (am_I m b) (p + 1) = false → y_cov (am_I m a) (am_I m b) 3 = false := by
    intro p hp h
    rcases (show p = 0 ∨ p = 1 ∨ p = 2 by omega) with rfl | rfl | rfl
    · show ((y_cov (am_I m a) (am_I m b) 1 && _) && _) = false; rw [h]; rfl
    · show (y_cov (am_I m a) (am_I m b) 2 && _) = false; rw [h]; rfl
    · exact h
  have key : ∀ d p : Nat, p + d = 3 → y_cov (am_I m a) (am_I m b) p = true → am_W sc 52 2 [.ref a, .ref b, .int (nI p)] [] m (am_R1 (some (.int (x_b (y_cov (am_I m a) (am_I m b) 3)))) m) := by
    intro d
    induction d with
    | zero =>
      intro p hp ht
      have e : p = 3 := by omega
      subst e
      rw [ht]
      refine am_iload_n iX6_covers_2 rfl rfl ?_
      refine am_iconst (i := 3) (v := 3) rfl iX6_covers_3 ?_
      refine am_icmp_ge iX6_covers_4 (fun _ => ?_) (fun hc => absurd (by decide) hc)
      refine am_iconst (i := 1) (v := 1) rfl iX6_covers_24 ?_
      exact am_zret iX6_covers_25 rfl (by first | exact Or.inl rfl | exact Or.inr rfl) (⟨rfl, rfl⟩)
    | succ d ih =>
      intro p hp ht
      have e1 : y_cov (am_I m a) (am_I m b) (p + 1) = (y_cov (am_I m a) (am_I m b) p && decide (am_I m b p ≤ am_I m a p)) := rfl
      refine am_iload_n iX6_covers_2 rfl rfl ?_
      refine am_iconst (i := 3) (v := 3) rfl iX6_covers_3 ?_
      refine am_icmp_ge iX6_covers_4 (fun hc => absurd hc (fun q => absurd ((nI_leI (a := 3) (b := p) (by omega) (by omega)).mp q) (by omega))) (fun _ => ?_)
      refine am_aload_n iX6_covers_7 rfl rfl ?_
      refine am_iload_n iX6_covers_8 rfl rfl ?_
      refine am_iald iX6_covers_9 (hk) (hv p (by omega)) ?_
      refine am_aload_n iX6_covers_10 rfl rfl ?_
      refine am_iload_n iX6_covers_11 rfl rfl ?_
      refine am_iald iX6_covers_12 (hk') (hv' p (by omega)) ?_
      rw [nI_clamp (by omega)]
      refine am_icmp_ge iX6_covers_13 (fun h1 => ?_) (fun h1 => ?_)
      · refine am_iinc_2 1 iX6_covers_18 rfl rfl rfl ?_
        refine am_goto iX6_covers_21 ?_
        rw [nI_1]
        exact ih (p + 1) (by omega) (by rw [e1, ht, decide_eq_true h1]; rfl)
      · rw [mono p (by omega) (by rw [e1, ht, decide_eq_false h1]; rfl)]
        refine am_iconst (i := 0) (v := 0) rfl iX6_covers_16 ?_
        exact am_zret iX6_covers_17 rfl (by first | exact Or.inl rfl | exact Or.inr rfl) (⟨rfl, rfl⟩)
  refine am_iconst (i := 0) (v := 0) rfl iX6_covers_0 ?_
  refine am_istore_n_2 iX6_covers_1 rfl rfl ?_
  exact key 3 0 rfl rfl
theorem y_sum {a : Nat} (hk : am_K m a = 11) (hl : am_L m a = 3) : am_W sc 53 0 [.ref a, .retAddr 1, .retAddr 1, .retAddr 1, .retAddr 1, .retAddr 1] [] m (am_R1 (some (.int (am_I m a 0 + am_I m a 1 + am_I m a 2))) m) := by
  have hv : ∀ j, j < 3 → vp_in (nI j) (am_L m a) := fun j hj => by rw [hl]; exact vp_in_nI hj (by decide)
  refine am_iconst (i := 0) (v := 0) rfl iX6_sum_0 ?_
  refine am_istore_n_1 iX6_sum_1 rfl rfl ?_
  refine am_aload_n iX6_sum_2 rfl rfl ?_
  refine am_astore_n_2 iX6_sum_3 rfl rfl ?_
  refine am_aload_n iX6_sum_4 rfl rfl ?_
  refine am_alen iX6_sum_5 (hk) (by decide) (by decide) ?_
  rw [hl]
  refine am_istore_n_3 iX6_sum_6 rfl rfl ?_
  refine am_iconst (i := 0) (v := 0) rfl iX6_sum_7 ?_
  refine am_istore_4 iX6_sum_8 rfl rfl ?_
  refine am_iload iX6_sum_10 rfl ?_
  refine am_iload_n iX6_sum_12 rfl rfl ?_
  refine am_icmp_ge iX6_sum_13 (fun hc => absurd hc (by decide)) (fun _ => ?_)
  refine am_aload_n iX6_sum_16 rfl rfl ?_
  refine am_iload iX6_sum_17 rfl ?_
  refine am_iald iX6_sum_19 (hk) (hv 0 (by omega)) ?_
  refine am_istore_5 iX6_sum_20 rfl rfl ?_
  refine am_iload_n iX6_sum_22 rfl rfl ?_
  refine am_iload iX6_sum_23 rfl ?_
  refine am_iadd iX6_sum_25 ?_
  refine am_istore_n_1 iX6_sum_26 rfl rfl ?_
  refine am_iinc_4 1 iX6_sum_27 rfl rfl rfl ?_
  refine am_goto iX6_sum_30 ?_
  refine am_iload iX6_sum_10 rfl ?_
  refine am_iload_n iX6_sum_12 rfl rfl ?_
  refine am_icmp_ge iX6_sum_13 (fun hc => absurd hc (by decide)) (fun _ => ?_)
  refine am_aload_n iX6_sum_16 rfl rfl ?_
  refine am_iload iX6_sum_17 rfl ?_
  refine am_iald iX6_sum_19 (hk) (hv 1 (by omega)) ?_
  refine am_istore_5 iX6_sum_20 rfl rfl ?_
  refine am_iload_n iX6_sum_22 rfl rfl ?_
  refine am_iload iX6_sum_23 rfl ?_
  refine am_iadd iX6_sum_25 ?_
  refine am_istore_n_1 iX6_sum_26 rfl rfl ?_
  refine am_iinc_4 1 iX6_sum_27 rfl rfl rfl ?_
  refine am_goto iX6_sum_30 ?_
  refine am_iload iX6_sum_10 rfl ?_
  refine am_iload_n iX6_sum_12 rfl rfl ?_
  refine am_icmp_ge iX6_sum_13 (fun hc => absurd hc (by decide)) (fun _ => ?_)
  refine am_aload_n iX6_sum_16 rfl rfl ?_
  refine am_iload iX6_sum_17 rfl ?_
  refine am_iald iX6_sum_19 (hk) (hv 2 (by omega)) ?_
  refine am_istore_5 iX6_sum_20 rfl rfl ?_
  refine am_iload_n iX6_sum_22 rfl rfl ?_
  refine am_iload iX6_sum_23 rfl ?_
  refine am_iadd iX6_sum_25 ?_
  refine am_istore_n_1 iX6_sum_26 rfl rfl ?_
  refine am_iinc_4 1 iX6_sum_27 rfl rfl rfl ?_
  refine am_goto iX6_sum_30 ?_
  refine am_iload iX6_sum_10 rfl ?_
  refine am_iload_n iX6_sum_12 rfl rfl ?_
  refine am_icmp_ge iX6_sum_13 (fun _ => ?_) (fun hc => absurd (by decide) hc)
  refine am_iload_n iX6_sum_33 rfl rfl ?_
  exact am_iret iX6_sum_34 rfl (⟨by rw [Int32.zero_add]; rfl, rfl⟩)
theorem y_I {t n j o i : Nat} (he : cx G t n) (hb : j < la t) (hv : cva t n j = (o, i)) (ho : Nat.blt o 35 = true) : am_I (cm m G X E) (ca G t n) j = X.1 o i :=
  cm_I (Nat.le_of_ble_eq_true ho) (by rw [show co G (ca G t n) = (t, n) from he]; exact (cvI_a hb).trans (congrArg some hv))
end
