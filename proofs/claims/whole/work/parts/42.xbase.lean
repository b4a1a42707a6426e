/-! the reference's small methods -/
theorem x_lesser {sc : Nat × (Nat → Int32)} {m : am_Mem} (a b : Int32) : am_W sc 66 0 [.int a, .int b] [] m (am_R1 (some (.int (if a < b then a else b))) m) := by
  refine am_iload_n iX7_lesser_0 rfl rfl ?_
  refine am_iload_n iX7_lesser_1 rfl rfl ?_
  refine am_icmp_ge iX7_lesser_2 (fun hc => ?_) (fun hc => ?_)
  · refine am_iload_n iX7_lesser_9 rfl rfl ?_
    exact am_iret iX7_lesser_10 rfl (⟨by rw [if_neg (Int32.not_lt.mpr hc)], rfl⟩)
  · refine am_iload_n iX7_lesser_5 rfl rfl ?_
    refine am_goto iX7_lesser_6 ?_
    exact am_iret iX7_lesser_10 rfl (⟨by rw [if_pos (Int32.not_le.mp hc)], rfl⟩)
theorem x_greater {sc : Nat × (Nat → Int32)} {m : am_Mem} (a b : Int32) : am_W sc 67 0 [.int a, .int b] [] m (am_R1 (some (.int (if a ≤ b then b else a))) m) := by
  refine am_iload_n iX7_greater_0 rfl rfl ?_
  refine am_iload_n iX7_greater_1 rfl rfl ?_
  refine am_icmp_le iX7_greater_2 (fun hc => ?_) (fun hc => ?_)
  · refine am_iload_n iX7_greater_9 rfl rfl ?_
    exact am_iret iX7_greater_10 rfl (⟨by rw [if_pos hc], rfl⟩)
  · refine am_iload_n iX7_greater_5 rfl rfl ?_
    refine am_goto iX7_greater_6 ?_
    exact am_iret iX7_greater_10 rfl (⟨by rw [if_neg hc], rfl⟩)
theorem x_thrown {sc : Nat × (Nat → Int32)} {m : am_Mem} {M : Nat} {X : ms_X} (hM : LM m M) : am_W sc 68 0 [.ref M] [] (xm m M X) (am_R1 (some (.int (X.1 0 2))) (xm m M X)) := by
  refine am_aload_n iX7_thrown_0 rfl rfl ?_
  refine x_getI hM iX7_thrown_1 fX7_thrown_121 ?_
  exact am_iret iX7_thrown_4 rfl (⟨rfl, rfl⟩)
def x_b (p : Bool) : Int32 := if p then 1 else 0
theorem x_b01 (p : Bool) : x_b p = 0 ∨ x_b p = 1 := by cases p <;> simp [x_b]
theorem x_b0 {p : Bool} : x_b p = 0 ↔ p = false := by cases p <;> simp [x_b]
def x_inL (v a b : Int64) : Bool := decide (a.toInt ≤ v.toInt ∧ v.toInt ≤ b.toInt)
theorem x_in {sc : Nat × (Nat → Int32)} {m : am_Mem} (v a b : Int64) : am_W sc 69 0 [.long v, .retAddr 1, .long a, .retAddr 1, .long b, .retAddr 1] [] m (am_R1 (some (.int (x_b (x_inL v a b)))) m) := by
  refine am_lload_n iX7_in_0 rfl rfl ?_
  refine am_lload_n iX7_in_1 rfl rfl ?_
  refine am_lcmp iX7_in_2 ?_
  refine am_if_lt iX7_in_3 (fun hc => ?_) (fun hc => ?_)
  · have h1 := lg_lt0.mp hc
    refine am_iconst (i := 0) (v := 0) rfl iX7_in_17 ?_
    exact am_zret iX7_in_18 rfl (by first | exact Or.inl rfl | exact Or.inr rfl) (⟨by rw [show x_inL v a b = false from decide_eq_false (fun q => by omega)]; rfl, rfl⟩)
  · have h1 : ¬ v.toInt < a.toInt := fun q => hc (lg_lt0.mpr q)
    refine am_lload_n iX7_in_6 rfl rfl ?_
    refine am_lload iX7_in_7 rfl ?_
    refine am_lcmp iX7_in_9 ?_
    refine am_if_gt iX7_in_10 (fun hc => ?_) (fun hc => ?_)
    · have h2 := lg_gt0.mp hc
      refine am_iconst (i := 0) (v := 0) rfl iX7_in_17 ?_
      exact am_zret iX7_in_18 rfl (by first | exact Or.inl rfl | exact Or.inr rfl) (⟨by rw [show x_inL v a b = false from decide_eq_false (fun q => by omega)]; rfl, rfl⟩)
    · have h2 : ¬ b.toInt < v.toInt := fun q => hc (lg_gt0.mpr q)
      refine am_iconst (i := 1) (v := 1) rfl iX7_in_13 ?_
      refine am_goto iX7_in_14 ?_
      exact am_zret iX7_in_18 rfl (by first | exact Or.inl rfl | exact Or.inr rfl) (⟨by rw [show x_inL v a b = true from decide_eq_true ⟨by omega, by omega⟩]; rfl, rfl⟩)
def x_chk (x : Int64) : Int64 := ((x * -7046029254386353131).toUInt64 >>> ((44 : Int32).toInt64.toUInt64 &&& Int64.toUInt64 63)).toInt64
theorem x_check {sc : Nat × (Nat → Int32)} {m : am_Mem} (x : Int64) : am_W sc 70 0 [.long x, .retAddr 1] [] m (am_R1 (some (.long (x_chk x))) m) := by
  refine am_lload_n iX7_check_0 rfl rfl ?_
  refine am_ldc2 (v := -7046029254386353131) (wd_841) iX7_check_1 ?_
  refine am_lmul iX7_check_4 ?_
  refine am_bipush (i := 44) (v := 44) rfl iX7_check_5 ?_
  refine am_lushr iX7_check_7 ?_
  exact am_lret iX7_check_8 rfl (⟨rfl, rfl⟩)
def x_tokL (a b c : Int32) : Int64 := a.toInt64 + 512 * b.toInt64 + 262144 * c.toInt64
def x_tok (a b c : Int32) : Int64 := x_tokL a b c * 1048576 + x_chk (x_tokL a b c)
theorem x_tokenOf {sc : Nat × (Nat → Int32)} {m : am_Mem} (a b c : Int32) : am_W sc 71 0 [.int a, .int b, .int c, .retAddr 1, .retAddr 1] [] m (am_R1 (some (.long (x_tok a b c))) m) := by
  refine am_iload_n iX7_tokenOf_0 rfl rfl ?_
  refine am_i2l iX7_tokenOf_1 ?_
  refine am_ldc2 (v := 512) (wd_835) iX7_tokenOf_2 ?_
  refine am_iload_n iX7_tokenOf_5 rfl rfl ?_
  refine am_i2l iX7_tokenOf_6 ?_
  refine am_lmul iX7_tokenOf_7 ?_
  refine am_ladd iX7_tokenOf_8 ?_
  refine am_ldc2 (v := 262144) (wd_836) iX7_tokenOf_9 ?_
  refine am_iload_n iX7_tokenOf_12 rfl rfl ?_
  refine am_i2l iX7_tokenOf_13 ?_
  refine am_lmul iX7_tokenOf_14 ?_
  refine am_ladd iX7_tokenOf_15 ?_
  refine am_lstore_n_3 iX7_tokenOf_16 rfl rfl ?_
  refine am_lload_n iX7_tokenOf_17 rfl rfl ?_
  refine am_ldc2 (v := 1048576) (wd_837) iX7_tokenOf_18 ?_
  refine am_lmul iX7_tokenOf_21 ?_
  refine am_lload_n iX7_tokenOf_22 rfl rfl ?_
  refine am_cS1r iX7_tokenOf_23 cX7_tokenOf_132 mX7_check rfl rfl rfl (x_check _) ?_
  refine am_ladd iX7_tokenOf_26 ?_
  exact am_lret iX7_tokenOf_27 rfl (⟨rfl, rfl⟩)
def x_pos (t : Int64) (p : Int32) : Int32 := ((t >>> ((20 + 9 * p).toInt64 &&& 63)) &&& 511).toInt32
theorem x_position {sc : Nat × (Nat → Int32)} {m : am_Mem} (t : Int64) (p : Int32) : am_W sc 72 0 [.long t, .retAddr 1, .int p] [] m (am_R1 (some (.int (x_pos t p))) m) := by
  refine am_lload_n iX7_position_0 rfl rfl ?_
  refine am_bipush (i := 20) (v := 20) rfl iX7_position_1 ?_
  refine am_bipush (i := 9) (v := 9) rfl iX7_position_3 ?_
  refine am_iload_n iX7_position_5 rfl rfl ?_
  refine am_imul iX7_position_6 ?_
  refine am_iadd iX7_position_7 ?_
  refine am_lshr iX7_position_8 ?_
  refine am_ldc2 (v := 511) (wd_936) iX7_position_9 ?_
  refine am_land iX7_position_12 ?_
  refine am_l2i iX7_position_13 ?_
  exact am_iret iX7_position_14 rfl (⟨rfl, rfl⟩)
/-- a range of ints, by their integers -/
def x_rg (v : Int32) (a b : Int) : Bool := decide (a ≤ v.toInt ∧ v.toInt ≤ b)
theorem x_rgL {v : Int32} {a b : Int64} : x_inL v.toInt64 a b = x_rg v a.toInt b.toInt := by
  unfold x_inL x_rg
  rw [Int32.toInt_toInt64]
theorem x_isSession {sc : Nat × (Nat → Int32)} {m : am_Mem} (v : Int32) : am_W sc 74 0 [.int v] [] m (am_R1 (some (.int (x_b (x_rg v 0 7)))) m) := by
  refine am_iload_n iX7_isSession_0 rfl rfl ?_
  refine am_i2l iX7_isSession_1 ?_
  refine am_lconst (i := 0) (v := 0) rfl iX7_isSession_2 ?_
  refine am_ldc2 (v := 7) (wd_803) iX7_isSession_3 ?_
  refine am_cS3r iX7_isSession_6 cX7_isSession_148 mX7_in rfl rfl rfl (x_in _ _ _) ?_
  exact am_zret iX7_isSession_9 rfl (x_b01 _) (⟨by rw [x_rgL]; rfl, rfl⟩)
