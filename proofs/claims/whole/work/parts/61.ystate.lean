/-! the class: a State takes a command -/
theorem mn_eq (x y : Int32) : (if y < x then y else x) = if x < y then x else y := by
  by_cases h1 : y < x
  · rw [if_pos h1, if_neg (Int32.not_lt.mpr (Int32.le_of_lt h1))]
  · rw [if_neg h1]
    by_cases h2 : x < y
    · rw [if_pos h2]
    · rw [if_neg h2]
      exact Int32.le_antisymm (Int32.not_lt.mp h1) (Int32.not_lt.mp h2)
theorem mx_eq (x y : Int32) : (if x < y then y else x) = if x ≤ y then y else x := by
  by_cases h1 : x < y
  · rw [if_pos h1, if_pos (Int32.le_of_lt h1)]
  · rw [if_neg h1]
    by_cases h2 : x ≤ y
    · rw [if_pos h2]
      exact Int32.le_antisymm h2 (Int32.not_lt.mp h1)
    · rw [if_neg h2]
section
variable {sc : Nat × (Nat → Int32)} {m : am_Mem} {G : cg_G} {X E : ms_X} {P R : Nat}
theorem y_receive (hL : LC m G P R) {s i : Nat} (hs : cx G 5 s) (hi : i < 30) (n : Int32) (c h : Nat) : am_W sc 15 0 [.ref (ca G 5 s), .int (nI i), .int n] [] (cm m G X E) (am_R1 none (cm m G (x_takeI X (30 * s + i) c h n 0) E)) := by
  unfold x_takeI
  rw [if_pos rfl]
  refine am_aload_n iX5_receive_0 rfl rfl ?_
  refine y_getR hL (by assumption) iX5_receive_1 fX5_receive_9 rfl rfl rfl (fun _ => ?_)
  refine am_iload_n iX5_receive_4 rfl rfl ?_
  refine y_iald (i) hL (by assumption) iX5_receive_5 (by first | rfl | simp only [nI_add, pk_mul, nI_1, nL0, nL1, nL2, nL3, nL4, nL10, nL30, nL300, nL401]) (hi) rfl rfl rfl rfl ?_
  refine am_iload_n iX5_receive_6 rfl rfl ?_
  refine am_iadd iX5_receive_7 ?_
  refine am_ldc (v := 100000) (wd_446) iX5_receive_8 ?_
  refine am_icmp_gt iX5_receive_10 (fun h1 => ?_) (fun h1 => ?_)
  · rw [if_neg (Int32.not_le.mpr h1)]
    exact am_vret iX5_receive_23 rfl (⟨rfl, rfl⟩)
  · rw [if_pos (Int32.not_lt.mp h1)]
    refine am_aload_n iX5_receive_13 rfl rfl ?_
    refine y_getR hL (by assumption) iX5_receive_14 fX5_receive_9 rfl rfl rfl (fun _ => ?_)
    refine am_iload_n iX5_receive_17 rfl rfl ?_
    refine am_dup2 iX5_receive_18 rfl rfl ?_
    refine y_iald (i) hL (by assumption) iX5_receive_19 (by first | rfl | simp only [nI_add, pk_mul, nI_1, nL0, nL1, nL2, nL3, nL4, nL10, nL30, nL300, nL401]) (hi) rfl rfl rfl rfl ?_
    refine am_iload_n iX5_receive_20 rfl rfl ?_
    refine am_iadd iX5_receive_21 ?_
    refine y_iast (i) hL (by assumption) iX5_receive_22 (by first | rfl | simp only [nI_add, pk_mul, nI_1, nL0, nL1, nL2, nL3, nL4, nL10, nL30, nL300, nL401]) (hi) rfl rfl rfl rfl ?_
    exact am_vret iX5_receive_23 rfl (⟨rfl, rfl⟩)
theorem y_reserve (hL : LC m G P R) {s i c : Nat} (hs : cx G 5 s) (hi : i < 30) (hc : c < 10) (n : Int32) : am_W sc 16 0 [.ref (ca G 5 s), .int (nI i), .int (nI c), .int n] [] (cm m G X E) (am_R1 none (cm m G (x_takeI X (30 * s + i) (10 * s + c) (30 * (10 * s + c) + i) n 1) E)) := by
  unfold x_takeI
  rw [if_neg (by decide), if_pos rfl]
  have b1 : c * 30 + i < 300 := by omega
  have e1 : 30 * (10 * s + c) + i = 300 * s + (c * 30 + i) := by omega
  rw [e1]
  refine am_aload_n iX5_reserve_0 rfl rfl ?_
  refine y_getR hL (by assumption) iX5_reserve_1 fX5_reserve_9 rfl rfl rfl (fun _ => ?_)
  refine am_iload_n iX5_reserve_4 rfl rfl ?_
  refine y_iald (i) hL (by assumption) iX5_reserve_5 (by first | rfl | simp only [nI_add, pk_mul, nI_1, nL0, nL1, nL2, nL3, nL4, nL10, nL30, nL300, nL401]) (hi) rfl rfl rfl rfl ?_
  refine am_aload_n iX5_reserve_6 rfl rfl ?_
  refine y_getR hL (by assumption) iX5_reserve_7 fX5_reserve_15 rfl rfl rfl (fun _ => ?_)
  refine am_iload_n iX5_reserve_10 rfl rfl ?_
  refine y_iald (i) hL (by assumption) iX5_reserve_11 (by first | rfl | simp only [nI_add, pk_mul, nI_1, nL0, nL1, nL2, nL3, nL4, nL10, nL30, nL300, nL401]) (hi) rfl rfl rfl rfl ?_
  refine am_isub iX5_reserve_12 ?_
  refine am_iload_n iX5_reserve_13 rfl rfl ?_
  refine am_icmp_lt iX5_reserve_14 (fun h1 => ?_) (fun h1 => ?_)
  · rw [if_neg (Int32.not_le.mpr h1)]
    refine am_aload_n iX5_reserve_45 rfl rfl ?_
    refine y_getR hL (by assumption) iX5_reserve_46 fX5_reserve_28 rfl rfl rfl (fun _ => ?_)
    refine am_iload_n iX5_reserve_49 rfl rfl ?_
    refine am_dup2 iX5_reserve_50 rfl rfl ?_
    refine y_iald (c) hL (by assumption) iX5_reserve_51 (by first | rfl | simp only [nI_add, pk_mul, nI_1, nL0, nL1, nL2, nL3, nL4, nL10, nL30, nL300, nL401]) (hc) rfl rfl rfl rfl ?_
    refine am_iconst (i := 1) (v := 1) rfl iX5_reserve_52 ?_
    refine am_iadd iX5_reserve_53 ?_
    refine y_iast (c) hL (by assumption) iX5_reserve_54 (by first | rfl | simp only [nI_add, pk_mul, nI_1, nL0, nL1, nL2, nL3, nL4, nL10, nL30, nL300, nL401]) (hc) rfl rfl rfl rfl ?_
    exact am_vret iX5_reserve_55 rfl (⟨rfl, rfl⟩)
  · rw [if_pos (Int32.not_lt.mp h1)]
    refine am_aload_n iX5_reserve_17 rfl rfl ?_
    refine y_getR hL (by assumption) iX5_reserve_18 fX5_reserve_31 rfl rfl rfl (fun _ => ?_)
    refine am_iload_n iX5_reserve_21 rfl rfl ?_
    refine am_bipush (i := 30) (v := 30) rfl iX5_reserve_22 ?_
    refine am_imul iX5_reserve_24 ?_
    refine am_iload_n iX5_reserve_25 rfl rfl ?_
    refine am_iadd iX5_reserve_26 ?_
    refine am_dup2 iX5_reserve_27 rfl rfl ?_
    refine y_iald (c * 30 + i) hL (by assumption) iX5_reserve_28 (by first | rfl | simp only [nI_add, pk_mul, nI_1, nL0, nL1, nL2, nL3, nL4, nL10, nL30, nL300, nL401]) (b1) rfl rfl rfl rfl ?_
    refine am_iload_n iX5_reserve_29 rfl rfl ?_
    refine am_iadd iX5_reserve_30 ?_
    refine y_iast (c * 30 + i) hL (by assumption) iX5_reserve_31 (by first | rfl | simp only [nI_add, pk_mul, nI_1, nL0, nL1, nL2, nL3, nL4, nL10, nL30, nL300, nL401]) (b1) rfl rfl rfl rfl ?_
    refine am_aload_n iX5_reserve_32 rfl rfl ?_
    refine y_getR hL (by assumption) iX5_reserve_33 fX5_reserve_15 rfl rfl rfl (fun _ => ?_)
    refine am_iload_n iX5_reserve_36 rfl rfl ?_
    refine am_dup2 iX5_reserve_37 rfl rfl ?_
    refine y_iald (i) hL (by assumption) iX5_reserve_38 (by first | rfl | simp only [nI_add, pk_mul, nI_1, nL0, nL1, nL2, nL3, nL4, nL10, nL30, nL300, nL401]) (hi) rfl rfl rfl rfl ?_
    refine am_iload_n iX5_reserve_39 rfl rfl ?_
    refine am_iadd iX5_reserve_40 ?_
    refine y_iast (i) hL (by assumption) iX5_reserve_41 (by first | rfl | simp only [nI_add, pk_mul, nI_1, nL0, nL1, nL2, nL3, nL4, nL10, nL30, nL300, nL401]) (hi) rfl rfl rfl rfl ?_
    refine am_goto iX5_reserve_42 ?_
    exact am_vret iX5_reserve_55 rfl (⟨rfl, rfl⟩)
theorem y_ship (hL : LC m G P R) {s i c : Nat} (hs : cx G 5 s) (hi : i < 30) (hc : c < 10) (n : Int32) : am_W sc 17 0 [.ref (ca G 5 s), .int (nI i), .int (nI c), .int n, .retAddr 1] [] (cm m G X E) (am_R1 none (cm m G (x_takeI X (30 * s + i) (10 * s + c) (30 * (10 * s + c) + i) n 2) E)) := by
  unfold x_takeI
  rw [if_neg (by decide), if_neg (by decide), if_pos rfl]
  have b1 : c * 30 + i < 300 := by omega
  have e1 : 30 * (10 * s + c) + i = 300 * s + (c * 30 + i) := by omega
  rw [e1]
  have e2 : nI c * 30 + nI i = nI (c * 30 + i) := by simp only [nI_add, pk_mul, nL30]
  refine am_iload_n iX5_ship_0 rfl rfl ?_
  refine am_bipush (i := 30) (v := 30) rfl iX5_ship_1 ?_
  refine am_imul iX5_ship_3 ?_
  refine am_iload_n iX5_ship_4 rfl rfl ?_
  refine am_iadd iX5_ship_5 ?_
  rw [e2]
  refine am_istore_4 iX5_ship_6 rfl rfl ?_
  refine am_aload_n iX5_ship_8 rfl rfl ?_
  refine y_getR hL (by assumption) iX5_ship_9 fX5_ship_31 rfl rfl rfl (fun _ => ?_)
  refine am_iload iX5_ship_12 rfl ?_
  refine y_iald (c * 30 + i) hL (by assumption) iX5_ship_14 (by first | rfl | simp only [nI_add, pk_mul, nI_1, nL0, nL1, nL2, nL3, nL4, nL10, nL30, nL300, nL401]) (b1) rfl rfl rfl rfl ?_
  refine am_iload_n iX5_ship_15 rfl rfl ?_
  refine am_icmp_lt iX5_ship_16 (fun h1 => ?_) (fun h1 => ?_)
  · rw [if_pos h1]
    exact am_vret iX5_ship_79 rfl (⟨rfl, rfl⟩)
  · rw [if_neg h1]
    refine am_aload_n iX5_ship_19 rfl rfl ?_
    refine y_getR hL (by assumption) iX5_ship_20 fX5_ship_31 rfl rfl rfl (fun _ => ?_)
    refine am_iload iX5_ship_23 rfl ?_
    refine am_dup2 iX5_ship_25 rfl rfl ?_
    refine y_iald (c * 30 + i) hL (by assumption) iX5_ship_26 (by first | rfl | simp only [nI_add, pk_mul, nI_1, nL0, nL1, nL2, nL3, nL4, nL10, nL30, nL300, nL401]) (b1) rfl rfl rfl rfl ?_
    refine am_iload_n iX5_ship_27 rfl rfl ?_
    refine am_isub iX5_ship_28 ?_
    refine y_iast (c * 30 + i) hL (by assumption) iX5_ship_29 (by first | rfl | simp only [nI_add, pk_mul, nI_1, nL0, nL1, nL2, nL3, nL4, nL10, nL30, nL300, nL401]) (b1) rfl rfl rfl rfl ?_
    refine am_aload_n iX5_ship_30 rfl rfl ?_
    refine y_getR hL (by assumption) iX5_ship_31 fX5_ship_15 rfl rfl rfl (fun _ => ?_)
    refine am_iload_n iX5_ship_34 rfl rfl ?_
    refine am_dup2 iX5_ship_35 rfl rfl ?_
    refine y_iald (i) hL (by assumption) iX5_ship_36 (by first | rfl | simp only [nI_add, pk_mul, nI_1, nL0, nL1, nL2, nL3, nL4, nL10, nL30, nL300, nL401]) (hi) rfl rfl rfl rfl ?_
    refine am_iload_n iX5_ship_37 rfl rfl ?_
    refine am_isub iX5_ship_38 ?_
    refine y_iast (i) hL (by assumption) iX5_ship_39 (by first | rfl | simp only [nI_add, pk_mul, nI_1, nL0, nL1, nL2, nL3, nL4, nL10, nL30, nL300, nL401]) (hi) rfl rfl rfl rfl ?_
    refine am_aload_n iX5_ship_40 rfl rfl ?_
    refine y_getR hL (by assumption) iX5_ship_41 fX5_ship_9 rfl rfl rfl (fun _ => ?_)
    refine am_iload_n iX5_ship_44 rfl rfl ?_
    refine am_dup2 iX5_ship_45 rfl rfl ?_
    refine y_iald (i) hL (by assumption) iX5_ship_46 (by first | rfl | simp only [nI_add, pk_mul, nI_1, nL0, nL1, nL2, nL3, nL4, nL10, nL30, nL300, nL401]) (hi) rfl rfl rfl rfl ?_
    refine am_iload_n iX5_ship_47 rfl rfl ?_
    refine am_isub iX5_ship_48 ?_
    refine y_iast (i) hL (by assumption) iX5_ship_49 (by first | rfl | simp only [nI_add, pk_mul, nI_1, nL0, nL1, nL2, nL3, nL4, nL10, nL30, nL300, nL401]) (hi) rfl rfl rfl rfl ?_
    refine am_aload_n iX5_ship_50 rfl rfl ?_
    refine y_getR hL (by assumption) iX5_ship_51 fX5_ship_18 rfl rfl rfl (fun _ => ?_)
    refine am_iload_n iX5_ship_54 rfl rfl ?_
    refine am_dup2 iX5_ship_55 rfl rfl ?_
    refine y_iald (i) hL (by assumption) iX5_ship_56 (by first | rfl | simp only [nI_add, pk_mul, nI_1, nL0, nL1, nL2, nL3, nL4, nL10, nL30, nL300, nL401]) (hi) rfl rfl rfl rfl ?_
    refine am_iload_n iX5_ship_57 rfl rfl ?_
    refine am_iadd iX5_ship_58 ?_
    refine y_iast (i) hL (by assumption) iX5_ship_59 (by first | rfl | simp only [nI_add, pk_mul, nI_1, nL0, nL1, nL2, nL3, nL4, nL10, nL30, nL300, nL401]) (hi) rfl rfl rfl rfl ?_
    refine am_aload_n iX5_ship_60 rfl rfl ?_
    refine y_getR hL (by assumption) iX5_ship_61 fX5_ship_24 rfl rfl rfl (fun _ => ?_)
    refine am_iload_n iX5_ship_64 rfl rfl ?_
    refine am_dup2 iX5_ship_65 rfl rfl ?_
    refine y_lald (c) hL (by assumption) iX5_ship_66 (by first | rfl | simp only [nI_add, pk_mul, nI_1, nL0, nL1, nL2, nL3, nL4, nL10, nL30, nL300, nL401]) (hc) ?_
    refine am_iload_n iX5_ship_67 rfl rfl ?_
    refine am_i2l iX5_ship_68 ?_
    refine am_aload_n iX5_ship_69 rfl rfl ?_
    refine y_getR hL (by assumption) iX5_ship_70 fX5_ship_21 rfl rfl rfl (fun _ => ?_)
    refine am_iload_n iX5_ship_73 rfl rfl ?_
    refine y_iald (i) hL (by assumption) iX5_ship_74 (by first | rfl | simp only [nI_add, pk_mul, nI_1, nL0, nL1, nL2, nL3, nL4, nL10, nL30, nL300, nL401]) (hi) rfl rfl rfl rfl ?_
    refine am_i2l iX5_ship_75 ?_
    refine am_lmul iX5_ship_76 ?_
    refine am_ladd iX5_ship_77 ?_
    refine y_last (c) hL (by assumption) iX5_ship_78 (by first | rfl | simp only [nI_add, pk_mul, nI_1, nL0, nL1, nL2, nL3, nL4, nL10, nL30, nL300, nL401]) (hc) ?_
    exact am_vret iX5_ship_79 rfl (⟨rfl, rfl⟩)
theorem y_release (hL : LC m G P R) {s i c : Nat} (hs : cx G 5 s) (hi : i < 30) (hc : c < 10) (n : Int32) : am_W sc 18 0 [.ref (ca G 5 s), .int (nI i), .int (nI c), .int n, .retAddr 1, .retAddr 1] [] (cm m G X E) (am_R1 none (cm m G (x_takeI X (30 * s + i) (10 * s + c) (30 * (10 * s + c) + i) n 3) E)) := by
  unfold x_takeI
  rw [if_neg (by decide), if_neg (by decide), if_neg (by decide), if_pos rfl]
  have b1 : c * 30 + i < 300 := by omega
  have e1 : 30 * (10 * s + c) + i = 300 * s + (c * 30 + i) := by omega
  rw [e1]
  have e2 : nI c * 30 + nI i = nI (c * 30 + i) := by simp only [nI_add, pk_mul, nL30]
  refine am_iload_n iX5_release_0 rfl rfl ?_
  refine am_bipush (i := 30) (v := 30) rfl iX5_release_1 ?_
  refine am_imul iX5_release_3 ?_
  refine am_iload_n iX5_release_4 rfl rfl ?_
  refine am_iadd iX5_release_5 ?_
  rw [e2]
  refine am_istore_4 iX5_release_6 rfl rfl ?_
  refine am_iload_n iX5_release_8 rfl rfl ?_
  refine am_aload_n iX5_release_9 rfl rfl ?_
  refine y_getR hL (by assumption) iX5_release_10 fX5_release_31 rfl rfl rfl (fun _ => ?_)
  refine am_iload iX5_release_13 rfl ?_
  refine y_iald (c * 30 + i) hL (by assumption) iX5_release_15 (by first | rfl | simp only [nI_add, pk_mul, nI_1, nL0, nL1, nL2, nL3, nL4, nL10, nL30, nL300, nL401]) (b1) rfl rfl rfl rfl ?_
  refine am_mmin iX5_release_16 wd_459 wd_174 wd_12 g_mn3 (Nat.le_of_ble_eq_true rfl) (Nat.le_of_ble_eq_true rfl) ?_
  rw [mn_eq]
  refine am_istore_5 iX5_release_19 rfl rfl ?_
  refine am_aload_n iX5_release_21 rfl rfl ?_
  refine y_getR hL (by assumption) iX5_release_22 fX5_release_31 rfl rfl rfl (fun _ => ?_)
  refine am_iload iX5_release_25 rfl ?_
  refine am_dup2 iX5_release_27 rfl rfl ?_
  refine y_iald (c * 30 + i) hL (by assumption) iX5_release_28 (by first | rfl | simp only [nI_add, pk_mul, nI_1, nL0, nL1, nL2, nL3, nL4, nL10, nL30, nL300, nL401]) (b1) rfl rfl rfl rfl ?_
  refine am_iload iX5_release_29 rfl ?_
  refine am_isub iX5_release_31 ?_
  refine y_iast (c * 30 + i) hL (by assumption) iX5_release_32 (by first | rfl | simp only [nI_add, pk_mul, nI_1, nL0, nL1, nL2, nL3, nL4, nL10, nL30, nL300, nL401]) (b1) rfl rfl rfl rfl ?_
  refine am_aload_n iX5_release_33 rfl rfl ?_
  refine y_getR hL (by assumption) iX5_release_34 fX5_release_15 rfl rfl rfl (fun _ => ?_)
  refine am_iload_n iX5_release_37 rfl rfl ?_
  refine am_dup2 iX5_release_38 rfl rfl ?_
  refine y_iald (i) hL (by assumption) iX5_release_39 (by first | rfl | simp only [nI_add, pk_mul, nI_1, nL0, nL1, nL2, nL3, nL4, nL10, nL30, nL300, nL401]) (hi) rfl rfl rfl rfl ?_
  refine am_iload iX5_release_40 rfl ?_
  refine am_isub iX5_release_42 ?_
  refine y_iast (i) hL (by assumption) iX5_release_43 (by first | rfl | simp only [nI_add, pk_mul, nI_1, nL0, nL1, nL2, nL3, nL4, nL10, nL30, nL300, nL401]) (hi) rfl rfl rfl rfl ?_
  exact am_vret iX5_release_44 rfl (⟨rfl, rfl⟩)
theorem y_take (hL : LC m G P R) {s k : Nat} (hs : cx G 5 s) (hk : cx G 18 k) (h3 : x_ix (X.1 3 k) 5) (h4 : x_ix (X.1 4 k) 30) (h5 : x_ix (X.1 5 k) 10) : am_W sc 14 0 [.ref (ca G 5 s), .ref (ca G 18 k), .retAddr 1, .retAddr 1, .retAddr 1] [] (cm m G X E) (am_R1 none (cm m G (x_take X s k) E)) := by
  obtain ⟨kd, hkd, -, hkd2⟩ := x_ix_ex h3
  obtain ⟨i, hi, hit, hi2⟩ := x_ix_ex h4
  obtain ⟨c, hc, hct, hc2⟩ := x_ix_ex h5
  unfold x_take
  rw [hit, hct]
  refine am_aload_n iX5_take_0 rfl rfl ?_
  refine y_getI (o := 4) hL (by assumption) iX5_take_1 fX5_take_40 rfl rfl rfl rfl ?_
  refine am_istore_n_2 iX5_take_4 rfl rfl ?_
  refine am_aload_n iX5_take_5 rfl rfl ?_
  refine y_getI (o := 5) hL (by assumption) iX5_take_6 fX5_take_46 rfl rfl rfl rfl ?_
  refine am_istore_n_3 iX5_take_9 rfl rfl ?_
  refine am_aload_n iX5_take_10 rfl rfl ?_
  refine y_getI (o := 6) hL (by assumption) iX5_take_11 fX5_take_49 rfl rfl rfl rfl ?_
  refine am_istore_4 iX5_take_14 rfl rfl ?_
  refine am_aload_n iX5_take_16 rfl rfl ?_
  refine y_getI (o := 3) hL (by assumption) iX5_take_17 fX5_take_52 rfl rfl rfl rfl ?_
  rw [hkd2, hi2, hc2]
  rcases (show kd = 0 ∨ kd = 1 ∨ kd = 2 ∨ kd = 3 ∨ kd = 4 by omega) with rfl | rfl | rfl | rfl | rfl
  · refine am_tIn (q := 0) (off := 36) 56 iX5_take_20 (by decide) (by decide) (by decide) (by decide) ?_
    refine am_aload_n iX5_take_56 rfl rfl ?_
    refine am_iload_n iX5_take_57 rfl rfl ?_
    refine am_iload iX5_take_58 rfl ?_
    refine am_cV2v iX5_take_60 cX5_take_55 mX5_receive (y_K hL (by assumption) rfl rfl) rfl rfl rfl (y_receive hL hs hi _ (10 * s + c) (30 * (10 * s + c) + i)) ?_
    refine am_goto iX5_take_63 ?_
    exact am_vret iX5_take_110 rfl (⟨rfl, rfl⟩)
  · refine am_tIn (q := 0) (off := 46) 66 iX5_take_20 (by decide) (by decide) (by decide) (by decide) ?_
    refine am_aload_n iX5_take_66 rfl rfl ?_
    refine am_iload_n iX5_take_67 rfl rfl ?_
    refine am_iload_n iX5_take_68 rfl rfl ?_
    refine am_iload iX5_take_69 rfl ?_
    refine am_cV3v iX5_take_71 cX5_take_59 mX5_reserve (y_K hL (by assumption) rfl rfl) rfl rfl rfl (y_reserve hL hs hi hc _) ?_
    refine am_goto iX5_take_74 ?_
    exact am_vret iX5_take_110 rfl (⟨rfl, rfl⟩)
  · refine am_tIn (q := 0) (off := 57) 77 iX5_take_20 (by decide) (by decide) (by decide) (by decide) ?_
    refine am_aload_n iX5_take_77 rfl rfl ?_
    refine am_iload_n iX5_take_78 rfl rfl ?_
    refine am_iload_n iX5_take_79 rfl rfl ?_
    refine am_iload iX5_take_80 rfl ?_
    refine am_cV3v iX5_take_82 cX5_take_63 mX5_ship (y_K hL (by assumption) rfl rfl) rfl rfl rfl (y_ship hL hs hi hc _) ?_
    refine am_goto iX5_take_85 ?_
    exact am_vret iX5_take_110 rfl (⟨rfl, rfl⟩)
  · refine am_tIn (q := 0) (off := 68) 88 iX5_take_20 (by decide) (by decide) (by decide) (by decide) ?_
    refine am_aload_n iX5_take_88 rfl rfl ?_
    refine am_iload_n iX5_take_89 rfl rfl ?_
    refine am_iload_n iX5_take_90 rfl rfl ?_
    refine am_iload iX5_take_91 rfl ?_
    refine am_cV3v iX5_take_93 cX5_take_66 mX5_release (y_K hL (by assumption) rfl rfl) rfl rfl rfl (y_release hL hs hi hc _) ?_
    refine am_goto iX5_take_96 ?_
    exact am_vret iX5_take_110 rfl (⟨rfl, rfl⟩)
  · refine am_tIn (q := 0) (off := 79) 99 iX5_take_20 (by decide) (by decide) (by decide) (by decide) ?_
    refine am_aload_n iX5_take_99 rfl rfl ?_
    refine y_getR hL (by assumption) iX5_take_100 fX5_take_21 rfl rfl rfl (fun _ => ?_)
    refine am_iload_n iX5_take_103 rfl rfl ?_
    refine am_iload iX5_take_104 rfl ?_
    refine y_iast (i) hL (by assumption) iX5_take_106 (by first | rfl | simp only [nI_add, pk_mul, nI_1, nL0, nL1, nL2, nL3, nL4, nL10, nL30, nL300, nL401]) (hi) rfl rfl rfl rfl ?_
    refine am_goto iX5_take_107 ?_
    exact am_vret iX5_take_110 rfl (⟨rfl, rfl⟩)
theorem y_heldBy (hL : LC m G P R) {s c : Nat} (hs : cx G 5 s) (hc : c < 10) : am_W sc 20 0 [.ref (ca G 5 s), .int (nI c), .retAddr 1, .retAddr 1, .retAddr 1] [] (cm m G X E) (am_R1 (some (.long (x_hs X (10 * s + c) 30))) (cm m G X E)) := by
  have key : ∀ d k : Nat, k + d = 30 → am_W sc 20 5 [.ref (ca G 5 s), .int (nI c), .long (x_hs X (10 * s + c) k), .retAddr 1, .int (nI k)] [] (cm m G X E) (am_R1 (some (.long (x_hs X (10 * s + c) 30))) (cm m G X E)) := by
    intro d
    induction d with
    | zero =>
      intro k hk
      have e : k = 30 := by omega
      subst e
      refine am_iload iX5_heldBy_5 rfl ?_
      refine am_bipush (i := 30) (v := 30) rfl iX5_heldBy_7 ?_
      refine am_icmp_ge iX5_heldBy_9 (fun _ => ?_) (fun hc => absurd (by decide) hc)
      refine am_lload_n iX5_heldBy_34 rfl rfl ?_
      exact am_lret iX5_heldBy_35 rfl (⟨rfl, rfl⟩)
    | succ d ih =>
      intro k hk
      refine am_iload iX5_heldBy_5 rfl ?_
      refine am_bipush (i := 30) (v := 30) rfl iX5_heldBy_7 ?_
      refine am_icmp_ge iX5_heldBy_9 (fun hc => absurd hc (fun q => absurd ((nI_leI (a := 30) (b := k) (by omega) (by omega)).mp q) (by omega))) (fun _ => ?_)
      refine am_lload_n iX5_heldBy_12 rfl rfl ?_
      refine am_aload_n iX5_heldBy_13 rfl rfl ?_
      refine y_getR hL (by assumption) iX5_heldBy_14 fX5_heldBy_31 rfl rfl rfl (fun _ => ?_)
      refine am_iload_n iX5_heldBy_17 rfl rfl ?_
      refine am_bipush (i := 30) (v := 30) rfl iX5_heldBy_18 ?_
      refine am_imul iX5_heldBy_20 ?_
      refine am_iload iX5_heldBy_21 rfl ?_
      refine am_iadd iX5_heldBy_23 ?_
      refine y_iald (c * 30 + k) hL (by assumption) iX5_heldBy_24 (by first | rfl | simp only [nI_add, pk_mul, nI_1, nL0, nL1, nL2, nL3, nL4, nL10, nL30, nL300, nL401]) ((show c * 30 + k < 300 by omega)) rfl rfl rfl rfl ?_
      rw [show 300 * s + (c * 30 + k) = 30 * (10 * s + c) + k by omega]
      refine am_i2l iX5_heldBy_25 ?_
      refine am_ladd iX5_heldBy_26 ?_
      refine am_lstore_n_2 iX5_heldBy_27 rfl rfl ?_
      refine am_iinc_4 1 iX5_heldBy_28 rfl rfl rfl ?_
      refine am_goto iX5_heldBy_31 ?_
      rw [nI_1]
      exact ih (k + 1) (by omega)
  refine am_lconst (i := 0) (v := 0) rfl iX5_heldBy_0 ?_
  refine am_lstore_n_2 iX5_heldBy_1 rfl rfl ?_
  refine am_iconst (i := 0) (v := 0) rfl iX5_heldBy_2 ?_
  refine am_istore_4 iX5_heldBy_3 rfl rfl ?_
  exact key 30 0 rfl
theorem y_partOf {mm : am_Mem} {i n : Nat} (hi : i < 30) (h0 : 1 ≤ n) (h4 : n ≤ 4) : am_W sc 132 0 [.int (nI i), .int (nI n)] [] mm (am_R1 (some (.int (nI (i % n)))) mm) := by
  refine am_iload_n iX6_partitionOf_0 rfl rfl ?_
  refine am_if_le iX6_partitionOf_1 (fun hc => absurd hc (fun q => absurd ((nI_leI (a := n) (b := 0) (by omega) (by omega)).mp q) (by omega))) (fun _ => ?_)
  refine am_iload_n iX6_partitionOf_4 rfl rfl ?_
  refine am_iload_n iX6_partitionOf_5 rfl rfl ?_
  refine am_irem (fun q => absurd ((nI_eq (a := n) (b := 0) (by omega) (by omega)).mp q) (by omega)) iX6_partitionOf_6 ?_
  rw [pk_rem (by omega) (by omega) (by omega)]
  refine am_goto iX6_partitionOf_7 ?_
  exact am_iret iX6_partitionOf_11 rfl (⟨rfl, rfl⟩)
theorem y_next {mm : am_Mem} {i n : Nat} (hi : i < n) (h4 : n ≤ 4) : am_W sc 133 0 [.int (nI i), .int (nI n)] [] mm (am_R1 (some (.int (nI ((i + 1) % n)))) mm) := by
  by_cases h : i + 1 < n
  · rw [Nat.mod_eq_of_lt h]
    refine am_iload_n iX6_theNext_0 rfl rfl ?_
    refine am_iconst (i := 1) (v := 1) rfl iX6_theNext_1 ?_
    refine am_iadd iX6_theNext_2 ?_
    rw [nI_1]
    refine am_iload_n iX6_theNext_3 rfl rfl ?_
    refine am_icmp_ge iX6_theNext_4 (fun hc => absurd hc (fun q => absurd ((nI_leI (by omega) (by omega)).mp q) (by omega))) (fun _ => ?_)
    refine am_iload_n iX6_theNext_7 rfl rfl ?_
    refine am_iconst (i := 1) (v := 1) rfl iX6_theNext_8 ?_
    refine am_iadd iX6_theNext_9 ?_
    rw [nI_1]
    refine am_goto iX6_theNext_10 ?_
    exact am_iret iX6_theNext_14 rfl (⟨rfl, rfl⟩)
  · have e : n = i + 1 := by omega
    subst e
    rw [Nat.mod_self]
    refine am_iload_n iX6_theNext_0 rfl rfl ?_
    refine am_iconst (i := 1) (v := 1) rfl iX6_theNext_1 ?_
    refine am_iadd iX6_theNext_2 ?_
    rw [nI_1]
    refine am_iload_n iX6_theNext_3 rfl rfl ?_
    refine am_icmp_ge iX6_theNext_4 (fun _ => ?_) (fun hc => absurd (nI_le (Nat.le_refl _) (by omega)) hc)
    refine am_iconst (i := 0) (v := 0) rfl iX6_theNext_13 ?_
    exact am_iret iX6_theNext_14 rfl (⟨rfl, rfl⟩)
theorem y_worth (hL : LC m G P R) {s : Nat} (hs : cx G 5 s) {a : Int32} (ha : a < 0 ↔ a = -1) : am_W sc 22 0 [.ref (ca G 5 s), .int a, .int (nI P), .retAddr 1, .retAddr 1, .retAddr 1] [] (cm m G X E) (am_R1 (some (.long (x_wo X P s a 30))) (cm m G X E)) := by
  have hP := hL.2.2.2
  have key : ∀ d k : Nat, k + d = 30 → am_W sc 22 5 [.ref (ca G 5 s), .int a, .int (nI P), .long (x_wo X P s a k), .retAddr 1, .int (nI k)] [] (cm m G X E) (am_R1 (some (.long (x_wo X P s a 30))) (cm m G X E)) := by
    intro d
    induction d with
    | zero =>
      intro k hk
      have e : k = 30 := by omega
      subst e
      refine am_iload iX5_worth_5 rfl ?_
      refine am_bipush (i := 30) (v := 30) rfl iX5_worth_7 ?_
      refine am_icmp_ge iX5_worth_9 (fun _ => ?_) (fun hc => absurd (by decide) hc)
      refine am_lload_n iX5_worth_53 rfl rfl ?_
      exact am_lret iX5_worth_54 rfl (⟨rfl, rfl⟩)
    | succ d ih =>
      intro k hk
      have hk3 : k < 30 := by omega
      have e1 : x_wo X P s a (k + 1) = if a < 0 ∨ nI (k % P) = a then x_wo X P s a k + (X.1 8 (30 * s + k)).toInt64 * (X.1 11 (30 * s + k)).toInt64 else x_wo X P s a k := rfl
      refine am_iload iX5_worth_5 rfl ?_
      refine am_bipush (i := 30) (v := 30) rfl iX5_worth_7 ?_
      refine am_icmp_ge iX5_worth_9 (fun hc => absurd hc (fun q => absurd ((nI_leI (a := 30) (b := k) (by omega) (by omega)).mp q) (by omega))) (fun _ => ?_)
      have yes : (a < 0 ∨ nI (k % P) = a) → am_W sc 22 27 [.ref (ca G 5 s), .int a, .int (nI P), .long (x_wo X P s a k), .retAddr 1, .int (nI k)] [] (cm m G X E) (am_R1 (some (.long (x_wo X P s a 30))) (cm m G X E)) := by
        intro hy
        rw [if_pos hy] at e1
        refine am_lload_n iX5_worth_27 rfl rfl ?_
        refine am_aload_n iX5_worth_28 rfl rfl ?_
        refine y_getR hL (by assumption) iX5_worth_29 fX5_worth_9 rfl rfl rfl (fun _ => ?_)
        refine am_iload iX5_worth_32 rfl ?_
        refine y_iald (k) hL (by assumption) iX5_worth_34 (by first | rfl | simp only [nI_add, pk_mul, nI_1, nL0, nL1, nL2, nL3, nL4, nL10, nL30, nL300, nL401]) (hk3) rfl rfl rfl rfl ?_
        refine am_i2l iX5_worth_35 ?_
        refine am_aload_n iX5_worth_36 rfl rfl ?_
        refine y_getR hL (by assumption) iX5_worth_37 fX5_worth_21 rfl rfl rfl (fun _ => ?_)
        refine am_iload iX5_worth_40 rfl ?_
        refine y_iald (k) hL (by assumption) iX5_worth_42 (by first | rfl | simp only [nI_add, pk_mul, nI_1, nL0, nL1, nL2, nL3, nL4, nL10, nL30, nL300, nL401]) (hk3) rfl rfl rfl rfl ?_
        refine am_i2l iX5_worth_43 ?_
        refine am_lmul iX5_worth_44 ?_
        refine am_ladd iX5_worth_45 ?_
        refine am_lstore_n_3 iX5_worth_46 rfl rfl ?_
        refine am_iinc_5 1 iX5_worth_47 rfl rfl rfl ?_
        refine am_goto iX5_worth_50 ?_
        rw [nI_1, ← e1]
        exact ih (k + 1) (by omega)
      refine am_iload_n iX5_worth_12 rfl rfl ?_
      refine am_iconst (i := -1) (v := -1) rfl iX5_worth_13 ?_
      refine am_icmp_eq iX5_worth_14 (fun h1 => ?_) (fun h1 => ?_)
      · exact yes (Or.inl (ha.mpr h1))
      · refine am_iload iX5_worth_17 rfl ?_
        refine am_iload_n iX5_worth_19 rfl rfl ?_
        refine am_cS2r iX5_worth_20 cX5_worth_88 mX6_partitionOf rfl rfl rfl (y_partOf hk3 (by omega) (by omega)) ?_
        refine am_iload_n iX5_worth_23 rfl rfl ?_
        refine am_icmp_ne iX5_worth_24 (fun h2 => ?_) (fun h2 => ?_)
        · rw [if_neg (fun z => z.elim (fun z => h1 (ha.mp z)) h2)] at e1
          refine am_iinc_5 1 iX5_worth_47 rfl rfl rfl ?_
          refine am_goto iX5_worth_50 ?_
          rw [nI_1, ← e1]
          exact ih (k + 1) (by omega)
        · exact yes (Or.inr h2)
  refine am_lconst (i := 0) (v := 0) rfl iX5_worth_0 ?_
  refine am_lstore_n_3 iX5_worth_1 rfl rfl ?_
  refine am_iconst (i := 0) (v := 0) rfl iX5_worth_2 ?_
  refine am_istore_5 iX5_worth_3 rfl rfl ?_
  exact key 30 0 rfl
/-- how many come before k among the first n, as the class counts them -/
def y_bef (X : ms_X) (r k : Nat) : Nat → Nat
  | 0 => 0
  | n + 1 => y_bef X r k n + (if X.1 10 (30 * r + k) < X.1 10 (30 * r + n) ∨ (X.1 10 (30 * r + n) = X.1 10 (30 * r + k) ∧ n < k) then 1 else 0)
theorem y_bef_le (X : ms_X) (r k : Nat) : ∀ n, y_bef X r k n ≤ n
  | 0 => Nat.le_refl _
  | n + 1 => by
    have := y_bef_le X r k n
    unfold y_bef
    split <;> omega
/-- the first of rank a, from k on -/
def y_rnk (X : ms_X) (r : Nat) (a : Int32) : Nat → Nat → Int32
  | 0, _ => a
  | d + 1, k => if nI (y_bef X r k 30) = a then nI k else y_rnk X r a d (k + 1)
set_option maxHeartbeats 1000000 in
theorem y_itemRanked (hL : LC m G P R) {r : Nat} (hr : cx G 5 r) (a : Int32) : am_W sc 21 0 [.ref (ca G 5 r), .int a, .retAddr 1, .retAddr 1, .retAddr 1, .retAddr 1] [] (cm m G X E) (am_R1 (some (.int (y_rnk X r a 30 0))) (cm m G X E)) := by
  have inner : ∀ (k : Nat) (v : Int32), k < 30 → (∀ w : Value, am_W sc 21 84 [.ref (ca G 5 r), .int a, .int (nI k), .int (nI (y_bef X r k 30)), .int (nI 30), w] [] (cm m G X E) (am_R1 (some (.int v)) (cm m G X E))) →
      ∀ d j : Nat, j + d = 30 → ∀ w : Value, am_W sc 21 13 [.ref (ca G 5 r), .int a, .int (nI k), .int (nI (y_bef X r k j)), .int (nI j), w] [] (cm m G X E) (am_R1 (some (.int v)) (cm m G X E)) := by
    intro k v hk hend d
    induction d with
    | zero =>
      intro j hj w
      have e : j = 30 := by omega
      subst e
      refine am_iload iX5_itemRanked_13 rfl ?_
      refine am_bipush (i := 30) (v := 30) rfl iX5_itemRanked_15 ?_
      refine am_icmp_ge iX5_itemRanked_17 (fun _ => ?_) (fun hc => absurd (by decide) hc)
      exact hend w
    | succ d ih =>
      intro j hj w
      have hj3 : j < 30 := by omega
      refine am_iload iX5_itemRanked_13 rfl ?_
      refine am_bipush (i := 30) (v := 30) rfl iX5_itemRanked_15 ?_
      refine am_icmp_ge iX5_itemRanked_17 (fun hc => absurd hc (fun q => absurd ((nI_leI (a := 30) (b := j) (by omega) (by omega)).mp q) (by omega))) (fun _ => ?_)
      have e1 : y_bef X r k (j + 1) = y_bef X r k j + (if X.1 10 (30 * r + k) < X.1 10 (30 * r + j) ∨ (X.1 10 (30 * r + j) = X.1 10 (30 * r + k) ∧ j < k) then 1 else 0) := rfl
      have yes : (X.1 10 (30 * r + k) < X.1 10 (30 * r + j) ∨ (X.1 10 (30 * r + j) = X.1 10 (30 * r + k) ∧ j < k)) → am_W sc 21 58 [.ref (ca G 5 r), .int a, .int (nI k), .int (nI (y_bef X r k j)), .int (nI j), w] [] (cm m G X E) (am_R1 (some (.int v)) (cm m G X E)) := by
        intro hy
        rw [if_pos hy] at e1
        refine am_iconst (i := 1) (v := 1) rfl iX5_itemRanked_58 ?_
        refine am_goto iX5_itemRanked_59 ?_
        refine am_istore_5 iX5_itemRanked_63 rfl rfl ?_
        refine am_iload_n iX5_itemRanked_65 rfl rfl ?_
        refine am_iload iX5_itemRanked_66 rfl ?_
        refine am_if_eq iX5_itemRanked_68 (fun hc => absurd hc (by decide)) (fun _ => ?_)
        refine am_iconst (i := 1) (v := 1) rfl iX5_itemRanked_71 ?_
        refine am_goto iX5_itemRanked_72 ?_
        refine am_iadd iX5_itemRanked_76 ?_
        refine am_istore_n_3 iX5_itemRanked_77 rfl rfl ?_
        refine am_iinc_4 1 iX5_itemRanked_78 rfl rfl rfl ?_
        refine am_goto iX5_itemRanked_81 ?_
        rw [nI_1, nI_1, ← e1]
        exact ih (j + 1) (by omega) _
      have no : ¬ (X.1 10 (30 * r + k) < X.1 10 (30 * r + j) ∨ (X.1 10 (30 * r + j) = X.1 10 (30 * r + k) ∧ j < k)) → am_W sc 21 62 [.ref (ca G 5 r), .int a, .int (nI k), .int (nI (y_bef X r k j)), .int (nI j), w] [] (cm m G X E) (am_R1 (some (.int v)) (cm m G X E)) := by
        intro hy
        rw [if_neg hy] at e1
        refine am_iconst (i := 0) (v := 0) rfl iX5_itemRanked_62 ?_
        refine am_istore_5 iX5_itemRanked_63 rfl rfl ?_
        refine am_iload_n iX5_itemRanked_65 rfl rfl ?_
        refine am_iload iX5_itemRanked_66 rfl ?_
        refine am_if_eq iX5_itemRanked_68 (fun _ => ?_) (fun hc => absurd (by decide) hc)
        refine am_iconst (i := 0) (v := 0) rfl iX5_itemRanked_75 ?_
        refine am_iadd iX5_itemRanked_76 ?_
        refine am_istore_n_3 iX5_itemRanked_77 rfl rfl ?_
        refine am_iinc_4 1 iX5_itemRanked_78 rfl rfl rfl ?_
        refine am_goto iX5_itemRanked_81 ?_
        rw [Int32.add_zero, nI_1]
        have := ih (j + 1) (by omega) (.int 0)
        rw [e1] at this
        exact this
      refine am_aload_n iX5_itemRanked_20 rfl rfl ?_
      refine y_getR hL (by assumption) iX5_itemRanked_21 fX5_itemRanked_18 rfl rfl rfl (fun _ => ?_)
      refine am_iload iX5_itemRanked_24 rfl ?_
      refine y_iald (j) hL (by assumption) iX5_itemRanked_26 (by first | rfl | simp only [nI_add, pk_mul, nI_1, nL0, nL1, nL2, nL3, nL4, nL10, nL30, nL300, nL401]) (hj3) rfl rfl rfl rfl ?_
      refine am_aload_n iX5_itemRanked_27 rfl rfl ?_
      refine y_getR hL (by assumption) iX5_itemRanked_28 fX5_itemRanked_18 rfl rfl rfl (fun _ => ?_)
      refine am_iload_n iX5_itemRanked_31 rfl rfl ?_
      refine y_iald (k) hL (by assumption) iX5_itemRanked_32 (by first | rfl | simp only [nI_add, pk_mul, nI_1, nL0, nL1, nL2, nL3, nL4, nL10, nL30, nL300, nL401]) (hk) rfl rfl rfl rfl ?_
      refine am_icmp_gt iX5_itemRanked_33 (fun h1 => ?_) (fun h1 => ?_)
      · exact yes (Or.inl h1)
      · refine am_aload_n iX5_itemRanked_36 rfl rfl ?_
        refine y_getR hL (by assumption) iX5_itemRanked_37 fX5_itemRanked_18 rfl rfl rfl (fun _ => ?_)
        refine am_iload iX5_itemRanked_40 rfl ?_
        refine y_iald (j) hL (by assumption) iX5_itemRanked_42 (by first | rfl | simp only [nI_add, pk_mul, nI_1, nL0, nL1, nL2, nL3, nL4, nL10, nL30, nL300, nL401]) (hj3) rfl rfl rfl rfl ?_
        refine am_aload_n iX5_itemRanked_43 rfl rfl ?_
        refine y_getR hL (by assumption) iX5_itemRanked_44 fX5_itemRanked_18 rfl rfl rfl (fun _ => ?_)
        refine am_iload_n iX5_itemRanked_47 rfl rfl ?_
        refine y_iald (k) hL (by assumption) iX5_itemRanked_48 (by first | rfl | simp only [nI_add, pk_mul, nI_1, nL0, nL1, nL2, nL3, nL4, nL10, nL30, nL300, nL401]) (hk) rfl rfl rfl rfl ?_
        refine am_icmp_ne iX5_itemRanked_49 (fun h2 => ?_) (fun h2 => ?_)
        · exact no (fun z => z.elim h1 (fun z => h2 z.1))
        · refine am_iload iX5_itemRanked_52 rfl ?_
          refine am_iload_n iX5_itemRanked_54 rfl rfl ?_
          refine am_icmp_ge iX5_itemRanked_55 (fun h3 => ?_) (fun h3 => ?_)
          · exact no (fun z => z.elim h1 (fun z => absurd ((nI_leI (by omega) (by omega)).mp h3) (by omega)))
          · exact yes (Or.inr ⟨h2, Nat.lt_of_not_le (fun q => h3 ((nI_leI (by omega) (by omega)).mpr q))⟩)
  have outer : ∀ d k : Nat, k + d = 30 → ∀ w3 w4 w5 : Value, am_W sc 21 2 [.ref (ca G 5 r), .int a, .int (nI k), w3, w4, w5] [] (cm m G X E) (am_R1 (some (.int (y_rnk X r a d k))) (cm m G X E)) := by
    intro d
    induction d with
    | zero =>
      intro k hk w3 w4 w5
      have e : k = 30 := by omega
      subst e
      refine am_iload_n iX5_itemRanked_2 rfl rfl ?_
      refine am_bipush (i := 30) (v := 30) rfl iX5_itemRanked_3 ?_
      refine am_icmp_ge iX5_itemRanked_5 (fun _ => ?_) (fun hc => absurd (by decide) hc)
      refine am_iload_n iX5_itemRanked_97 rfl rfl ?_
      exact am_iret iX5_itemRanked_98 rfl (⟨rfl, rfl⟩)
    | succ d ih =>
      intro k hk w3 w4 w5
      refine am_iload_n iX5_itemRanked_2 rfl rfl ?_
      refine am_bipush (i := 30) (v := 30) rfl iX5_itemRanked_3 ?_
      refine am_icmp_ge iX5_itemRanked_5 (fun hc => absurd hc (fun q => absurd ((nI_leI (a := 30) (b := k) (by omega) (by omega)).mp q) (by omega))) (fun _ => ?_)
      refine am_iconst (i := 0) (v := 0) rfl iX5_itemRanked_8 ?_
      refine am_istore_n_3 iX5_itemRanked_9 rfl rfl ?_
      refine am_iconst (i := 0) (v := 0) rfl iX5_itemRanked_10 ?_
      refine am_istore_4 iX5_itemRanked_11 rfl rfl ?_
      refine inner k _ (by omega) (fun w => ?_) 30 0 (by omega) w5
      refine am_iload_n iX5_itemRanked_84 rfl rfl ?_
      refine am_iload_n iX5_itemRanked_85 rfl rfl ?_
      unfold y_rnk
      refine am_icmp_ne iX5_itemRanked_86 (fun h1 => ?_) (fun h1 => ?_)
      · rw [if_neg h1]
        refine am_iinc_2 1 iX5_itemRanked_91 rfl rfl rfl ?_
        refine am_goto iX5_itemRanked_94 ?_
        rw [nI_1]
        exact ih (k + 1) (by omega) _ _ _
      · rw [if_pos h1]
        refine am_iload_n iX5_itemRanked_89 rfl rfl ?_
        exact am_iret iX5_itemRanked_90 rfl (⟨rfl, rfl⟩)
  refine am_iconst (i := 0) (v := 0) rfl iX5_itemRanked_0 ?_
  refine am_istore_n_2 iX5_itemRanked_1 rfl rfl ?_
  exact outer 30 0 rfl _ _ _
end
