/-! the class's constructors: parts -/
section
variable {sc : Nat × (Nat → Int32)} {m m2 m3 : am_Mem} {a b s : Nat}
/-- a cell with its kind, length, ints; no long is set -/
def cb (m : am_Mem) (a kd len : Nat) (f : Nat → Int32) : Prop := am_K m a = kd ∧ am_L m a = len ∧ (∀ j, am_I m a j = f j) ∧ ∀ j, am_J m a j = 0
def z0 : Nat → Int32 := fun _ => 0
def z1 : Nat → Int32 := fun j => if j < 30 then 1 else 0
def zu : Nat → Int32 := fun j => if j = 6 then 1 else 0
/-- of what was there, the references of a alone have changed -/
def c_st (m m2 : am_Mem) (a : Nat) : Prop := am_n m ≤ am_n m2 ∧ ∀ b, b ≤ am_n m → am_K m2 b = am_K m b ∧ am_L m2 b = am_L m b ∧ (∀ j, am_I m2 b j = am_I m b j ∧ am_J m2 b j = am_J m b j) ∧ (b ≠ a → ∀ j, am_R m2 b j = am_R m b j)
theorem c_st.refl (m : am_Mem) (a : Nat) : c_st m m a := ⟨Nat.le_refl _, fun b _ => ⟨rfl, rfl, fun j => ⟨rfl, rfl⟩, fun _ j => rfl⟩⟩
theorem c_st.trans (h : c_st m m2 a) (h2 : c_st m2 m3 a) : c_st m m3 a := by
  refine ⟨Nat.le_trans h.1 h2.1, fun b hb => ?_⟩
  obtain ⟨b1, b2, b3, b4⟩ := h.2 b hb
  obtain ⟨c1, c2, c3, c4⟩ := h2.2 b (Nat.le_trans hb h.1)
  exact ⟨c1.trans b1, c2.trans b2, fun j => ⟨(c3 j).1.trans (b3 j).1, (c3 j).2.trans (b3 j).2⟩, fun hn j => (c4 hn j).trans (b4 hn j)⟩
/-- a step that touches a cell that is newer than m -/
theorem c_st.trans' (h : c_st m m2 a) (h2 : c_st m2 m3 s) (hs : am_n m < s) : c_st m m3 a := by
  refine ⟨Nat.le_trans h.1 h2.1, fun b hb => ?_⟩
  obtain ⟨b1, b2, b3, b4⟩ := h.2 b hb
  obtain ⟨c1, c2, c3, c4⟩ := h2.2 b (Nat.le_trans hb h.1)
  exact ⟨c1.trans b1, c2.trans b2, fun j => ⟨(c3 j).1.trans (b3 j).1, (c3 j).2.trans (b3 j).2⟩, fun hn j => (c4 (by omega) j).trans (b4 hn j)⟩
theorem c_st.new (m : am_Mem) (kd len sz a : Nat) : c_st m (am_new m kd len sz) a := by
  refine ⟨by show m.1.1 ≤ m.1.1 + 1; omega, fun b hb => ?_⟩
  have ne : b ≠ m.1.1 + 1 := by have : b ≤ m.1.1 := hb; omega
  exact ⟨if_neg ne, if_neg ne, fun j => ⟨if_neg ne, if_neg ne⟩, fun _ j => if_neg ne⟩
theorem c_st.setR (m : am_Mem) (a j v : Nat) : c_st m (am_setR m a j v) a := ⟨Nat.le_refl _, fun b _ => ⟨rfl, rfl, fun j => ⟨rfl, rfl⟩, fun hn i => if_neg (fun q => hn q.1)⟩⟩
theorem c_st.setI (h : c_st m m2 a) (hs : am_n m < s) (j : Nat) (v : Int32) : c_st m (am_setI m2 s j v) a := by
  refine ⟨h.1, fun b hb => ?_⟩
  obtain ⟨b1, b2, b3, b4⟩ := h.2 b hb
  exact ⟨b1, b2, fun i => ⟨(if_neg (fun q => by have := q.1; omega)).trans (b3 i).1, (b3 i).2⟩, b4⟩
theorem cb.st {kd len : Nat} {f : Nat → Int32} (h : cb m b kd len f) (hs : c_st m m2 a) (hb : b ≤ am_n m) : cb m2 b kd len f := by
  obtain ⟨b1, b2, b3, -⟩ := hs.2 b hb
  exact ⟨b1.trans h.1, b2.trans h.2.1, fun j => (b3 j).1.trans (h.2.2.1 j), fun j => (b3 j).2.trans (h.2.2.2 j)⟩
theorem cb.new (m : am_Mem) (kd len sz : Nat) : cb (am_new m kd len sz) (am_n m + 1) kd len z0 := ⟨if_pos rfl, if_pos rfl, fun j => if_pos rfl, fun j => if_pos rfl⟩
def c_sz (ln : Nat → Nat) : Nat → Nat
  | 0 => 0
  | i + 1 => c_sz ln i + ln i
/-- an object that got its first i arrays -/
def c_Ar (kd ln : Nat → Nat) (m m2 : am_Mem) (a i : Nat) : Prop := c_st m m2 a ∧ am_n m2 = am_n m + i ∧ am_u m2 = am_u m + c_sz ln i ∧ (∀ j, j < i → am_R m2 a j = am_n m + 1 + j) ∧ ∀ j, j < i → cb m2 (am_n m + 1 + j) (kd j) (ln j) z0
theorem c_Ar.zero (kd ln : Nat → Nat) (m : am_Mem) (a : Nat) : c_Ar kd ln m m a 0 := ⟨c_st.refl m a, rfl, rfl, fun j hj => by omega, fun j hj => by omega⟩
theorem c_Ar.step {kd ln : Nat → Nat} {i k0 l0 : Nat} (h : c_Ar kd ln m m2 a i) (ha : a ≤ am_n m) (hk : kd i = k0) (hl : ln i = l0) : c_Ar kd ln m (am_setR (am_new m2 k0 l0 l0) a i (am_n m2 + 1)) a (i + 1) := by
  subst hk
  subst hl
  obtain ⟨b1, b2, b3, b4, b5⟩ := h
  have s1 : c_st m2 (am_setR (am_new m2 (kd i) (ln i) (ln i)) a i (am_n m2 + 1)) a := (c_st.new m2 (kd i) (ln i) (ln i) a).trans (c_st.setR _ a i _)
  refine ⟨b1.trans s1, ?_, ?_, fun j hj => ?_, fun j hj => ?_⟩
  · show am_n m2 + 1 = _
    omega
  · show am_u m2 + ln i = am_u m + (c_sz ln i + ln i)
    omega
  · show (if a = a ∧ j = i then am_n m2 + 1 else if a = am_n m2 + 1 then 0 else am_R m2 a j) = _
    by_cases e : j = i
    · rw [if_pos ⟨rfl, e⟩]; omega
    · rw [if_neg (fun q => e q.2), if_neg (by omega)]
      exact b4 j (by omega)
  · by_cases e : j = i
    · subst e
      have := cb.new m2 (kd j) (ln j) (ln j)
      rw [b2] at this
      rw [show am_n m + 1 + j = am_n m + j + 1 by omega]
      exact this
    · exact (b5 j (by omega)).st s1 (by omega)
def kS (j : Nat) : Nat := if j = 4 then 12 else 11
def lS (j : Nat) : Nat := [30, 30, 30, 30, 10, 10, 300].getD j 0
/-- a State and its arrays, at s -/
def c_sb (m : am_Mem) (s : Nat) : Prop := cb m s 5 0 z0 ∧ (∀ j, j < 7 → am_R m s j = s + 1 + j) ∧ ∀ j, j < 7 → cb m (s + 1 + j) (kS j) (lS j) (if j = 3 then z1 else z0)
theorem c_sb.st (h : c_sb m s) (hs : c_st m m2 a) (h1 : s + 7 ≤ am_n m) (h2 : s ≠ a) : c_sb m2 s := ⟨h.1.st hs (by omega), fun j hj => ((hs.2 s (by omega)).2.2.2 h2 j).trans (h.2.1 j hj), fun j hj => (h.2.2 j hj).st hs (by omega)⟩
set_option maxHeartbeats 1000000 in
theorem y_State (hb : cb m s 5 0 z0) (hs0 : ¬ s = 0) (hsn : am_n m = s) (h1 : am_n m + 7 ≤ am_CM) (h2 : am_u m + 440 ≤ am_SM) : am_W sc 12 0 [.ref s, .retAddr 1] [] m (am_RE none (fun m' => c_st m m' s ∧ am_n m' = am_n m + 7 ∧ am_u m' = am_u m + 440 ∧ c_sb m' s)) := by
  refine am_aload_n iX5_init_0 rfl rfl ?_
  refine am_oinit iX5_init_1 wd_58 wd_23 g_oi2 (Nat.le_of_ble_eq_true rfl) (Nat.le_of_ble_eq_true rfl) (hs0) ?_
  have g0 := c_Ar.zero kS lS m s
  have hk := hb.1
  refine am_aload_n iX5_init_4 rfl rfl ?_
  refine am_bipush (i := 30) (v := 30) rfl iX5_init_5 ?_
  refine am_newaI (N := 30) iX5_init_7 wd_81 (by decide) (by decide) (by decide) (by omega) (by omega) ?_
  have g1 := g0.step (Nat.le_of_eq hsn.symm) (k0 := 11) (l0 := 30) rfl rfl
  refine am_putR iX5_init_9 fX5_init_9 (by decide +kernel) ((g0.1.trans (c_st.new _ _ _ _ _)).2 s (by omega) |>.1.trans hk) ?_
  generalize am_setR (am_new m 11 30 30) s 0 (am_n m + 1) = M at g1 ⊢
  have r1 : am_n M = am_n m + 1 ∧ am_u M = am_u m + 30 := ⟨g1.2.1, g1.2.2.1⟩
  refine am_aload_n iX5_init_12 rfl rfl ?_
  refine am_bipush (i := 30) (v := 30) rfl iX5_init_13 ?_
  refine am_newaI (N := 30) iX5_init_15 wd_81 (by decide) (by decide) (by decide) (by omega) (by omega) ?_
  have g2 := g1.step (Nat.le_of_eq hsn.symm) (k0 := 11) (l0 := 30) rfl rfl
  refine am_putR iX5_init_17 fX5_init_15 (by decide +kernel) ((g1.1.trans (c_st.new _ _ _ _ _)).2 s (by omega) |>.1.trans hk) ?_
  generalize am_setR (am_new M 11 30 30) s 1 (am_n M + 1) = M2 at g2 ⊢
  have r2 : am_n M2 = am_n m + 2 ∧ am_u M2 = am_u m + 60 := ⟨g2.2.1, g2.2.2.1⟩
  refine am_aload_n iX5_init_20 rfl rfl ?_
  refine am_bipush (i := 30) (v := 30) rfl iX5_init_21 ?_
  refine am_newaI (N := 30) iX5_init_23 wd_81 (by decide) (by decide) (by decide) (by omega) (by omega) ?_
  have g3 := g2.step (Nat.le_of_eq hsn.symm) (k0 := 11) (l0 := 30) rfl rfl
  refine am_putR iX5_init_25 fX5_init_18 (by decide +kernel) ((g2.1.trans (c_st.new _ _ _ _ _)).2 s (by omega) |>.1.trans hk) ?_
  generalize am_setR (am_new M2 11 30 30) s 2 (am_n M2 + 1) = M3 at g3 ⊢
  have r3 : am_n M3 = am_n m + 3 ∧ am_u M3 = am_u m + 90 := ⟨g3.2.1, g3.2.2.1⟩
  refine am_aload_n iX5_init_28 rfl rfl ?_
  refine am_bipush (i := 30) (v := 30) rfl iX5_init_29 ?_
  refine am_newaI (N := 30) iX5_init_31 wd_81 (by decide) (by decide) (by decide) (by omega) (by omega) ?_
  have g4 := g3.step (Nat.le_of_eq hsn.symm) (k0 := 11) (l0 := 30) rfl rfl
  refine am_putR iX5_init_33 fX5_init_21 (by decide +kernel) ((g3.1.trans (c_st.new _ _ _ _ _)).2 s (by omega) |>.1.trans hk) ?_
  generalize am_setR (am_new M3 11 30 30) s 3 (am_n M3 + 1) = M4 at g4 ⊢
  have r4 : am_n M4 = am_n m + 4 ∧ am_u M4 = am_u m + 120 := ⟨g4.2.1, g4.2.2.1⟩
  refine am_aload_n iX5_init_36 rfl rfl ?_
  refine am_bipush (i := 10) (v := 10) rfl iX5_init_37 ?_
  refine am_newaJ (N := 10) iX5_init_39 wd_82 (by decide) (by decide) (by decide) (by omega) (by omega) ?_
  have g5 := g4.step (Nat.le_of_eq hsn.symm) (k0 := 12) (l0 := 10) rfl rfl
  refine am_putR iX5_init_41 fX5_init_24 (by decide +kernel) ((g4.1.trans (c_st.new _ _ _ _ _)).2 s (by omega) |>.1.trans hk) ?_
  generalize am_setR (am_new M4 12 10 10) s 4 (am_n M4 + 1) = M5 at g5 ⊢
  have r5 : am_n M5 = am_n m + 5 ∧ am_u M5 = am_u m + 130 := ⟨g5.2.1, g5.2.2.1⟩
  refine am_aload_n iX5_init_44 rfl rfl ?_
  refine am_bipush (i := 10) (v := 10) rfl iX5_init_45 ?_
  refine am_newaI (N := 10) iX5_init_47 wd_81 (by decide) (by decide) (by decide) (by omega) (by omega) ?_
  have g6 := g5.step (Nat.le_of_eq hsn.symm) (k0 := 11) (l0 := 10) rfl rfl
  refine am_putR iX5_init_49 fX5_init_28 (by decide +kernel) ((g5.1.trans (c_st.new _ _ _ _ _)).2 s (by omega) |>.1.trans hk) ?_
  generalize am_setR (am_new M5 11 10 10) s 5 (am_n M5 + 1) = M6 at g6 ⊢
  have r6 : am_n M6 = am_n m + 6 ∧ am_u M6 = am_u m + 140 := ⟨g6.2.1, g6.2.2.1⟩
  refine am_aload_n iX5_init_52 rfl rfl ?_
  refine am_sipush (i := 300) (v := 300) rfl iX5_init_53 ?_
  refine am_newaI (N := 300) iX5_init_56 wd_81 (by decide) (by decide) (by decide) (by omega) (by omega) ?_
  have g7 := g6.step (Nat.le_of_eq hsn.symm) (k0 := 11) (l0 := 300) rfl rfl
  refine am_putR iX5_init_58 fX5_init_31 (by decide +kernel) ((g6.1.trans (c_st.new _ _ _ _ _)).2 s (by omega) |>.1.trans hk) ?_
  generalize am_setR (am_new M6 11 300 300) s 6 (am_n M6 + 1) = M7 at g7 ⊢
  have r7 : am_n M7 = am_n m + 7 ∧ am_u M7 = am_u m + 440 := ⟨g7.2.1, g7.2.2.1⟩
  have key : ∀ d i, i + d = 30 → ∀ mm, c_st m mm s → am_n mm = am_n m + 7 → am_u mm = am_u m + 440 → (∀ j, j < 7 → am_R mm s j = am_n m + 1 + j) → (∀ j, j < 7 → cb mm (am_n m + 1 + j) (kS j) (lS j) (if j = 3 then (fun q => if q < i then 1 else 0) else z0)) → am_W sc 12 63 [.ref s, .int (nI i)] [] mm (am_RE none (fun m' => c_st m m' s ∧ am_n m' = am_n m + 7 ∧ am_u m' = am_u m + 440 ∧ c_sb m' s)) := by
    intro d
    induction d with
    | zero =>
      intro i hi mm q1 q2 q3 q4 q5
      have e : i = 30 := by omega
      subst e
      refine am_iload_n iX5_init_63 rfl rfl ?_
      refine am_bipush (i := 30) (v := 30) rfl iX5_init_64 ?_
      refine am_icmp_ge iX5_init_66 (fun _ => ?_) (fun hc => absurd (by decide) hc)
      refine am_vret iX5_init_82 rfl ⟨rfl, q1, q2, q3, hb.st q1 (by omega), ?_, ?_⟩
      · rw [hsn] at q4; exact q4
      · rw [hsn] at q5; exact q5
    | succ d ih =>
      intro i hi mm q1 q2 q3 q4 q5
      have c3 := q5 3 (by omega)
      have e3 : am_R mm s 3 = am_n m + 1 + 3 := q4 3 (by omega)
      refine am_iload_n iX5_init_63 rfl rfl ?_
      refine am_bipush (i := 30) (v := 30) rfl iX5_init_64 ?_
      refine am_icmp_ge iX5_init_66 (fun hc => absurd hc (fun q => absurd ((nI_leI (a := 30) (b := i) (by omega) (by omega)).mp q) (by omega))) (fun _ => ?_)
      refine am_aload_n iX5_init_69 rfl rfl ?_
      refine am_getR iX5_init_70 fX5_init_21 (((q1.2 s (by omega)).1.trans hk)) ?_
      rw [e3]
      refine am_iload_n iX5_init_73 rfl rfl ?_
      refine am_iconst (i := 1) (v := 1) rfl iX5_init_74 ?_
      refine am_iast iX5_init_75 c3.1 (by rw [c3.2.1]; exact vp_in_nI (N := 30) (by omega) (by decide)) ?_
      rw [nI_clamp (by omega)]
      refine am_iinc_1 1 iX5_init_76 rfl rfl rfl ?_
      refine am_goto iX5_init_79 ?_
      rw [nI_1]
      refine ih (i + 1) (by omega) _ (q1.setI (by omega) _ _) q2 q3 q4 (fun j hj => ?_)
      obtain ⟨d1, d2, d3, d4⟩ := q5 j hj
      refine ⟨d1, d2, fun x => ?_, d4⟩
      show (if am_n m + 1 + j = am_n m + 1 + 3 ∧ x = i then 1 else am_I mm (am_n m + 1 + j) x) = _
      rw [d3]
      by_cases ej : j = 3
      · subst ej
        rw [if_pos rfl, if_pos rfl]
        by_cases ex : x = i
        · rw [if_pos ⟨rfl, ex⟩]
          exact (if_pos (by omega)).symm
        · rw [if_neg (fun q => ex q.2)]
          show (if x < i then 1 else 0) = (if x < i + 1 then 1 else 0)
          by_cases h : x < i
          · rw [if_pos h, if_pos (by omega)]
          · rw [if_neg h, if_neg (by omega)]
      · rw [if_neg (fun q => ej (by have := q.1; omega)), if_neg ej, if_neg ej]
  refine am_iconst (i := 0) (v := 0) rfl iX5_init_61 ?_
  refine am_istore_n_1 iX5_init_62 rfl rfl ?_
  exact key 30 0 rfl M7 g7.1 r7.1 r7.2 g7.2.2.2.1 (fun j hj => by
    have := g7.2.2.2.2 j hj
    by_cases ej : j = 3
    · subst ej
      rw [if_pos rfl]
      exact this
    · rw [if_neg ej]
      exact this)
end
