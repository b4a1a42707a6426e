/-! the class's constructors: logs, sessions, replicas -/
section
variable {sc : Nat × (Nat → Int32)} {m m2 m3 : am_Mem} {a b s : Nat}
def c_lb (m : am_Mem) (a : Nat) : Prop := cb m a 1 0 z0 ∧ am_R m a 0 = a + 1 ∧ cb m (a + 1) 14 400 z0
def c_ssb (m : am_Mem) (a : Nat) : Prop := cb m a 4 0 z0 ∧ am_R m a 0 = a + 1 ∧ am_R m a 1 = a + 2 ∧ cb m (a + 1) 11 3 z0 ∧ cb m (a + 2) 11 3 z0
def c_rb (m : am_Mem) (a : Nat) : Prop := cb m a 3 0 zu ∧ (am_R m a 0 = a + 1 ∧ am_R m a 1 = a + 9 ∧ am_R m a 2 = a + 17 ∧ am_R m a 3 = a + 18) ∧ c_sb m (a + 1) ∧ c_sb m (a + 9) ∧ cb m (a + 17) 11 3 z0 ∧ cb m (a + 18) 11 3 z0
theorem c_lb.st (h : c_lb m b) (hs : c_st m m2 a) (h1 : b + 1 ≤ am_n m) (h2 : b ≠ a) : c_lb m2 b := ⟨h.1.st hs (by omega), ((hs.2 b (by omega)).2.2.2 h2 0).trans h.2.1, h.2.2.st hs (by omega)⟩
theorem c_ssb.st (h : c_ssb m b) (hs : c_st m m2 a) (h1 : b + 2 ≤ am_n m) (h2 : b ≠ a) : c_ssb m2 b := ⟨h.1.st hs (by omega), ((hs.2 b (by omega)).2.2.2 h2 0).trans h.2.1, ((hs.2 b (by omega)).2.2.2 h2 1).trans h.2.2.1, h.2.2.2.1.st hs (by omega), h.2.2.2.2.st hs (by omega)⟩
theorem c_rb.st (h : c_rb m b) (hs : c_st m m2 a) (h1 : b + 18 ≤ am_n m) (h2 : a < b ∨ b + 18 < a) : c_rb m2 b := by
  obtain ⟨q1, ⟨q2, q3, q4, q5⟩, q6, q7, q8, q9⟩ := h
  have r := (hs.2 b (by omega)).2.2.2 (by omega)
  exact ⟨q1.st hs (by omega), ⟨(r 0).trans q2, (r 1).trans q3, (r 2).trans q4, (r 3).trans q5⟩, q6.st hs (by omega) (by omega), q7.st hs (by omega) (by omega), q8.st hs (by omega), q9.st hs (by omega)⟩
theorem y_Log (hb : cb m a 1 0 z0) (ha0 : ¬ a = 0) (han : am_n m = a) (h1 : am_n m + 1 ≤ am_CM) (h2 : am_u m + 400 ≤ am_SM) : am_W sc 1 0 [.ref a] [] m (am_RE none (fun m' => c_st m m' a ∧ am_n m' = am_n m + 1 ∧ am_u m' = am_u m + 400 ∧ c_lb m' a)) := by
  refine am_aload_n iX1_init_0 rfl rfl ?_
  refine am_oinit iX1_init_1 wd_31 wd_23 g_oi2 (Nat.le_of_ble_eq_true rfl) (Nat.le_of_ble_eq_true rfl) (ha0) ?_
  have g0 := c_Ar.zero (fun _ => 14) (fun _ => 400) m a
  have hk := hb.1
  refine am_aload_n iX1_init_4 rfl rfl ?_
  refine am_sipush (i := 400) (v := 400) rfl iX1_init_5 ?_
  refine am_newq (ci := 0) (N := 400) iX1_init_8 (by decide) wd_32 wd_33 (by decide) (by decide) (by decide) (by omega) (by omega) ?_
  have g1 := g0.step (Nat.le_of_eq han.symm) (k0 := 14) (l0 := 400) rfl rfl
  refine am_putR iX1_init_11 fX1_init_11 (by decide +kernel) ((g0.1.trans (c_st.new _ _ _ _ _)).2 a (by omega) |>.1.trans hk) ?_
  refine am_vret iX1_init_14 rfl ⟨rfl, g1.1, g1.2.1, g1.2.2.1, hb.st g1.1 (by omega), ?_, ?_⟩
  · exact (g1.2.2.2.1 0 (by omega)).trans (by omega)
  · rw [show a + 1 = am_n m + 1 + 0 by omega]
    exact g1.2.2.2.2 0 (by omega)
theorem y_Session (hb : cb m a 4 0 z0) (ha0 : ¬ a = 0) (han : am_n m = a) (h1 : am_n m + 2 ≤ am_CM) (h2 : am_u m + 6 ≤ am_SM) : am_W sc 9 0 [.ref a] [] m (am_RE none (fun m' => c_st m m' a ∧ am_n m' = am_n m + 2 ∧ am_u m' = am_u m + 6 ∧ c_ssb m' a)) := by
  refine am_aload_n iX4_init_0 rfl rfl ?_
  refine am_oinit iX4_init_1 wd_115 wd_23 g_oi2 (Nat.le_of_ble_eq_true rfl) (Nat.le_of_ble_eq_true rfl) (ha0) ?_
  have g0 := c_Ar.zero (fun _ => 11) (fun _ => 3) m a
  have hk := hb.1
  refine am_aload_n iX4_init_4 rfl rfl ?_
  refine am_iconst (i := 3) (v := 3) rfl iX4_init_5 ?_
  refine am_newaI (N := 3) iX4_init_6 wd_81 (by decide) (by decide) (by decide) (by omega) (by omega) ?_
  have g1 := g0.step (Nat.le_of_eq han.symm) (k0 := 11) (l0 := 3) rfl rfl
  refine am_putR iX4_init_8 fX4_init_9 (by decide +kernel) ((g0.1.trans (c_st.new _ _ _ _ _)).2 a (by omega) |>.1.trans hk) ?_
  generalize am_setR (am_new m 11 3 3) a 0 (am_n m + 1) = M at g1 ⊢
  have r1 : am_n M = am_n m + 1 ∧ am_u M = am_u m + 3 := ⟨g1.2.1, g1.2.2.1⟩
  refine am_aload_n iX4_init_11 rfl rfl ?_
  refine am_iconst (i := 3) (v := 3) rfl iX4_init_12 ?_
  refine am_newaI (N := 3) iX4_init_13 wd_81 (by decide) (by decide) (by decide) (by omega) (by omega) ?_
  have g2 := g1.step (Nat.le_of_eq han.symm) (k0 := 11) (l0 := 3) rfl rfl
  refine am_putR iX4_init_15 fX4_init_15 (by decide +kernel) ((g1.1.trans (c_st.new _ _ _ _ _)).2 a (by omega) |>.1.trans hk) ?_
  refine am_vret iX4_init_18 rfl ⟨rfl, g2.1, g2.2.1, g2.2.2.1, hb.st g2.1 (by omega), ?_, ?_, ?_, ?_⟩
  · exact (g2.2.2.2.1 0 (by omega)).trans (by omega)
  · exact (g2.2.2.2.1 1 (by omega)).trans (by omega)
  · rw [show a + 1 = am_n m + 1 + 0 by omega]
    exact g2.2.2.2.2 0 (by omega)
  · rw [show a + 2 = am_n m + 1 + 1 by omega]
    exact g2.2.2.2.2 1 (by omega)
set_option maxHeartbeats 1000000 in
theorem y_Rep1 {Q : am_Out → am_Mem → Prop} (hb : cb m a 3 0 z0) (ha0 : ¬ a = 0) (han : am_n m = a) (h1 : am_n m + 18 ≤ am_CM) (h2 : am_u m + 900 ≤ am_SM) (hQ : ∀ MF, c_st m MF a → am_n MF = am_n m + 16 → am_u MF = am_u m + 894 → am_R MF a 0 = a + 1 → am_R MF a 1 = a + 9 → c_sb MF (a + 1) → c_sb MF (a + 9) → am_W sc 6 26 [.ref a] [] MF Q) : am_W sc 6 0 [.ref a] [] m Q := by
  refine am_aload_n iX3_init_0 rfl rfl ?_
  refine am_oinit iX3_init_1 wd_52 wd_23 g_oi2 (Nat.le_of_ble_eq_true rfl) (Nat.le_of_ble_eq_true rfl) (ha0) ?_
  have hk := hb.1
  refine am_aload_n iX3_init_4 rfl rfl ?_
  refine am_newo (ci := 5) (N := 7) iX3_init_5 (by decide) rfl wd_53 wd_54 wd_4 (by omega) (by omega) ?_
  have sA : c_st m (am_new m 5 0 7) a := c_st.new _ _ _ _ _
  have bA : cb (am_new m 5 0 7) (am_n m + 1) 5 0 z0 := cb.new m 5 0 7
  have nA : am_n (am_new m 5 0 7) = am_n m + 1 ∧ am_u (am_new m 5 0 7) = am_u m + 7 := ⟨rfl, rfl⟩
  generalize am_new m 5 0 7 = MA at sA bA nA ⊢
  refine am_dup iX3_init_8 rfl ?_
  refine am_eI0v iX3_init_9 cX3_init_11 mX5_init ((by omega)) rfl rfl rfl (y_State bA (by omega) nA.1 (by omega) (by omega)) ?_
  rintro M1 ⟨s1, n1, u1, b1⟩
  have s1' : c_st m M1 a := sA.trans' s1 (by omega)
  refine am_putR iX3_init_12 fX3_init_12 (by decide +kernel) ((s1'.2 a (by omega)).1.trans hk) ?_
  have R0 : am_R (am_setR M1 a 0 (am_n m + 1)) a 0 = am_n m + 1 := if_pos ⟨rfl, rfl⟩
  have sB : c_st M1 (am_setR M1 a 0 (am_n m + 1)) a := c_st.setR _ _ _ _
  have nB : am_n (am_setR M1 a 0 (am_n m + 1)) = am_n m + 8 ∧ am_u (am_setR M1 a 0 (am_n m + 1)) = am_u m + 447 := ⟨by show am_n M1 = _; omega, by show am_u M1 = _; omega⟩
  have b1 := b1.st sB (by omega) (by omega)
  have sB' := s1'.trans sB
  generalize am_setR M1 a 0 (am_n m + 1) = MB at R0 sB nB b1 sB' ⊢
  refine am_aload_n iX3_init_15 rfl rfl ?_
  refine am_newo (ci := 5) (N := 7) iX3_init_16 (by decide) rfl wd_53 wd_54 wd_4 (by omega) (by omega) ?_
  have sC : c_st MB (am_new MB 5 0 7) (am_n MB + 1) := c_st.new _ _ _ _ _
  have bC : cb (am_new MB 5 0 7) (am_n MB + 1) 5 0 z0 := cb.new MB 5 0 7
  have nC : am_n (am_new MB 5 0 7) = am_n MB + 1 ∧ am_u (am_new MB 5 0 7) = am_u MB + 7 := ⟨rfl, rfl⟩
  generalize am_new MB 5 0 7 = MC at sC bC nC ⊢
  refine am_dup iX3_init_19 rfl ?_
  refine am_eI0v iX3_init_20 cX3_init_11 mX5_init ((by omega)) rfl rfl rfl (y_State bC (by omega) nC.1 (by omega) (by omega)) ?_
  rintro M2 ⟨s2, n2, u2, b2⟩
  have sD : c_st MB M2 (am_n MB + 1) := sC.trans s2
  have kD := fun b hb hn => (sD.2 b hb).2.2.2 hn
  refine am_putR iX3_init_23 fX3_init_18 (by decide +kernel) ((sD.2 a (by omega)).1.trans ((sB'.2 a (by omega)).1.trans hk)) ?_
  have sE : c_st M2 (am_setR M2 a 1 (am_n MB + 1)) a := c_st.setR _ _ _ _
  have R0' : am_R (am_setR M2 a 1 (am_n MB + 1)) a 0 = am_n m + 1 := (if_neg (fun q => absurd q.2 (by decide))).trans ((kD a (by omega) (by omega) 0).trans R0)
  have R1 : am_R (am_setR M2 a 1 (am_n MB + 1)) a 1 = am_n MB + 1 := if_pos ⟨rfl, rfl⟩
  have b1 := (b1.st sD (by omega) (by omega)).st sE (by omega) (by omega)
  have b2 := b2.st sE (by omega) (by omega)
  have sF : c_st m (am_setR M2 a 1 (am_n MB + 1)) a := by
    refine ⟨by show am_n m ≤ am_n M2; omega, fun b hb => ?_⟩
    obtain ⟨x1, x2, x3, x4⟩ := sB'.2 b hb
    obtain ⟨y1, y2, y3, y4⟩ := sD.2 b (by omega)
    obtain ⟨w1, w2, w3, w4⟩ := sE.2 b (by omega)
    refine ⟨w1.trans (y1.trans x1), w2.trans (y2.trans x2), fun j => ⟨(w3 j).1.trans ((y3 j).1.trans (x3 j).1), (w3 j).2.trans ((y3 j).2.trans (x3 j).2)⟩, fun hn j => (w4 hn j).trans (Eq.trans ?_ (x4 hn j))⟩
    exact y4 (by omega) j
  have nF : am_n (am_setR M2 a 1 (am_n MB + 1)) = am_n m + 16 ∧ am_u (am_setR M2 a 1 (am_n MB + 1)) = am_u m + 894 := ⟨by show am_n M2 = _; omega, by show am_u M2 = _; omega⟩
  exact hQ _ sF nF.1 nF.2 (R0'.trans (by omega)) (R1.trans (by omega)) (by rw [show a + 1 = am_n m + 1 by omega]; exact b1) (by rw [show a + 9 = am_n MB + 1 by omega]; exact b2)
set_option maxHeartbeats 2000000 in
theorem y_Replica (hb : cb m a 3 0 z0) (ha0 : ¬ a = 0) (han : am_n m = a) (h1 : am_n m + 18 ≤ am_CM) (h2 : am_u m + 900 ≤ am_SM) : am_W sc 6 0 [.ref a] [] m (am_RE none (fun m' => (am_n m ≤ am_n m' ∧ ∀ b, b < a → am_K m' b = am_K m b ∧ am_L m' b = am_L m b ∧ (∀ j, am_I m' b j = am_I m b j ∧ am_J m' b j = am_J m b j) ∧ ∀ j, am_R m' b j = am_R m b j) ∧ am_n m' = am_n m + 18 ∧ am_u m' = am_u m + 900 ∧ c_rb m' a)) := by
  have hk := hb.1
  refine y_Rep1 hb ha0 han h1 h2 (fun MF sF nF1 nF2 R0' R1 b1 b2 => ?_)
  refine am_aload_n iX3_init_26 rfl rfl ?_
  refine am_iconst (i := 3) (v := 3) rfl iX3_init_27 ?_
  refine am_newaI (N := 3) iX3_init_28 wd_81 (by decide) (by decide) (by decide) (by omega) (by omega) ?_
  have sG : c_st MF (am_setR (am_new MF 11 3 3) a 2 (am_n MF + 1)) a := (c_st.new _ _ _ _ _).trans (c_st.setR _ _ _ _)
  have bG : cb (am_setR (am_new MF 11 3 3) a 2 (am_n MF + 1)) (am_n MF + 1) 11 3 z0 := (cb.new MF 11 3 3).st (c_st.setR _ a _ _) (Nat.le_refl _)
  have R0'' : am_R (am_setR (am_new MF 11 3 3) a 2 (am_n MF + 1)) a 0 = a + 1 := (if_neg (fun q => absurd q.2 (by decide))).trans ((if_neg (fun q => by have q : a = am_n MF + 1 := q; omega)).trans R0')
  have R1' : am_R (am_setR (am_new MF 11 3 3) a 2 (am_n MF + 1)) a 1 = a + 9 := (if_neg (fun q => absurd q.2 (by decide))).trans ((if_neg (fun q => by have q : a = am_n MF + 1 := q; omega)).trans R1)
  have R2 : am_R (am_setR (am_new MF 11 3 3) a 2 (am_n MF + 1)) a 2 = am_n MF + 1 := if_pos ⟨rfl, rfl⟩
  refine am_putR iX3_init_30 fX3_init_21 (by decide +kernel) (((c_st.new MF 11 3 3 a).2 a (by omega)).1.trans ((sF.2 a (by omega)).1.trans hk)) ?_
  have nG : am_n (am_setR (am_new MF 11 3 3) a 2 (am_n MF + 1)) = am_n m + 17 ∧ am_u (am_setR (am_new MF 11 3 3) a 2 (am_n MF + 1)) = am_u m + 897 := ⟨by show am_n MF + 1 = _; omega, by show am_u MF + 3 = _; omega⟩
  have b1 := b1.st sG (by omega) (by omega)
  have b2 := b2.st sG (by omega) (by omega)
  have sG' := sF.trans sG
  generalize am_setR (am_new MF 11 3 3) a 2 (am_n MF + 1) = MG at sG bG R0'' R1' R2 nG b1 b2 sG' ⊢
  refine am_aload_n iX3_init_33 rfl rfl ?_
  refine am_iconst (i := 3) (v := 3) rfl iX3_init_34 ?_
  refine am_newaI (N := 3) iX3_init_35 wd_81 (by decide) (by decide) (by decide) (by omega) (by omega) ?_
  have sH : c_st MG (am_setR (am_new MG 11 3 3) a 3 (am_n MG + 1)) a := (c_st.new _ _ _ _ _).trans (c_st.setR _ _ _ _)
  have bH : cb (am_setR (am_new MG 11 3 3) a 3 (am_n MG + 1)) (am_n MG + 1) 11 3 z0 := (cb.new MG 11 3 3).st (c_st.setR _ a _ _) (Nat.le_refl _)
  have T0 : am_R (am_setR (am_new MG 11 3 3) a 3 (am_n MG + 1)) a 0 = a + 1 := (if_neg (fun q => absurd q.2 (by decide))).trans ((if_neg (fun q => by have q : a = am_n MG + 1 := q; omega)).trans R0'')
  have T1 : am_R (am_setR (am_new MG 11 3 3) a 3 (am_n MG + 1)) a 1 = a + 9 := (if_neg (fun q => absurd q.2 (by decide))).trans ((if_neg (fun q => by have q : a = am_n MG + 1 := q; omega)).trans R1')
  have T2 : am_R (am_setR (am_new MG 11 3 3) a 3 (am_n MG + 1)) a 2 = am_n MF + 1 := (if_neg (fun q => absurd q.2 (by decide))).trans ((if_neg (fun q => by have q : a = am_n MG + 1 := q; omega)).trans R2)
  have T3 : am_R (am_setR (am_new MG 11 3 3) a 3 (am_n MG + 1)) a 3 = am_n MG + 1 := if_pos ⟨rfl, rfl⟩
  refine am_putR iX3_init_37 fX3_init_25 (by decide +kernel) (((c_st.new MG 11 3 3 a).2 a (by omega)).1.trans ((sG'.2 a (by omega)).1.trans hk)) ?_
  have nH : am_n (am_setR (am_new MG 11 3 3) a 3 (am_n MG + 1)) = am_n m + 18 ∧ am_u (am_setR (am_new MG 11 3 3) a 3 (am_n MG + 1)) = am_u m + 900 := ⟨by show am_n MG + 1 = _; omega, by show am_u MG + 3 = _; omega⟩
  have b1 := b1.st sH (by omega) (by omega)
  have b2 := b2.st sH (by omega) (by omega)
  have bG := bG.st sH (by omega)
  have sH' := sG'.trans sH
  have bA := hb.st sH' (by omega)
  generalize am_setR (am_new MG 11 3 3) a 3 (am_n MG + 1) = MH at sH bH T0 T1 T2 T3 nH b1 b2 bG sH' bA ⊢
  refine am_aload_n iX3_init_40 rfl rfl ?_
  refine am_iconst (i := 1) (v := 1) rfl iX3_init_41 ?_
  refine am_putZ iX3_init_42 fX3_init_28 rfl (bA.1) rfl (Or.inr rfl) ?_
  have nz : ∀ c kd len f, c ≠ a → cb MH c kd len f → cb (am_setI MH a 6 1) c kd len f := fun c kd len f hc h => ⟨h.1, h.2.1, fun j => (if_neg (fun q => hc q.1)).trans (h.2.2.1 j), h.2.2.2⟩
  have ns : ∀ c, a < c → c_sb MH c → c_sb (am_setI MH a 6 1) c := fun c hc h => ⟨nz _ _ _ _ (by omega) h.1, h.2.1, fun j hj => nz _ _ _ _ (by omega) (h.2.2 j hj)⟩
  refine am_vret iX3_init_45 rfl ⟨rfl, ⟨by show am_n m ≤ am_n MH; omega, fun b hb2 => ?_⟩, nH.1, nH.2, ⟨bA.1, bA.2.1, fun j => ?_, bA.2.2.2⟩, ⟨T0, T1, T2.trans (by omega), T3.trans (by omega)⟩, ?_, ?_, ?_, ?_⟩
  · obtain ⟨x1, x2, x3, x4⟩ := sH'.2 b (by omega)
    exact ⟨x1, x2, fun j => ⟨(if_neg (fun q => by have := q.1; omega)).trans (x3 j).1, (x3 j).2⟩, x4 (by omega)⟩
  · show (if a = a ∧ j = 6 then 1 else am_I MH a j) = (if j = 6 then 1 else 0)
    by_cases e : j = 6
    · rw [if_pos ⟨rfl, e⟩, if_pos e]
    · rw [if_neg (fun q => e q.2), if_neg e]
      exact bA.2.2.1 j
  · exact ns _ (by omega) b1
  · exact ns _ (by omega) b2
  · rw [show a + 17 = am_n MF + 1 by omega]
    exact nz _ _ _ _ (by omega) bG
  · rw [show a + 18 = am_n MG + 1 by omega]
    exact nz _ _ _ _ (by omega) bH
end
