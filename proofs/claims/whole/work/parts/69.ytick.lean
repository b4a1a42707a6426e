/-! the class: ticks -/
section
variable {sc : Nat × (Nat → Int32)} {m : am_Mem} {G : cg_G} {X E : ms_X} {P R N T : Nat}
theorem x_adv_o (X : ms_X) (P N r p : Nat) {a j : Nat} (h8 : a ≠ 8) (h9 : a ≠ 9) (h10 : a ≠ 10) (h11 : a ≠ 11) (h12 : a ≠ 12) (h14 : a ≠ 14) (h15 : a ≠ 15) (h17 : a ≠ 17) (h22 : a ≠ 22) (h23 : a ≠ 23) (h31 : a ≠ 31) (h34 : a ≠ 34) : (x_adv X P N r p).2.1 a j = X.1 a j := by
  unfold x_adv
  split
  · rfl
  · split
    · rfl
    · exact (x_look_o _ _ _ h22 h23 h31 h34 N).trans (x_adv1_o X P r p h8 h9 h10 h11 h12 h14 h15 h17)
theorem x_run_o (P N r : Nat) {a j : Nat} (h8 : a ≠ 8) (h9 : a ≠ 9) (h10 : a ≠ 10) (h11 : a ≠ 11) (h12 : a ≠ 12) (h14 : a ≠ 14) (h15 : a ≠ 15) (h17 : a ≠ 17) (h22 : a ≠ 22) (h23 : a ≠ 23) (h31 : a ≠ 31) (h34 : a ≠ 34) : ∀ (f took missed p : Nat) (X : ms_X), (x_run P N r f took missed p X).2.1 a j = X.1 a j
  | 0, _, _, _, _ => rfl
  | f + 1, took, missed, p, X => by
    unfold x_run
    split
    · split
      · rw [x_run_o P N r h8 h9 h10 h11 h12 h14 h15 h17 h22 h23 h31 h34 f, x_adv_o _ _ _ _ _ h8 h9 h10 h11 h12 h14 h15 h17 h22 h23 h31 h34]
      · rw [x_run_o P N r h8 h9 h10 h11 h12 h14 h15 h17 h22 h23 h31 h34 f, x_adv_o _ _ _ _ _ h8 h9 h10 h11 h12 h14 h15 h17 h22 h23 h31 h34]
    · rfl
theorem IM.adv (h : IM m G X P N) (r p : Nat) : IM m G (x_adv X P N r p).2 P N :=
  h.cg (fun _ => x_adv_o _ _ _ _ _ (by decide) (by decide) (by decide) (by decide) (by decide) (by decide) (by decide) (by decide) (by decide) (by decide) (by decide) (by decide)) (fun _ => x_adv_o _ _ _ _ _ (by decide) (by decide) (by decide) (by decide) (by decide) (by decide) (by decide) (by decide) (by decide) (by decide) (by decide) (by decide))
theorem IM.run (h : IM m G X P N) (r f took missed p : Nat) : IM m G (x_run P N r f took missed p X).2 P N :=
  h.cg (fun _ => x_run_o _ _ _ (by decide) (by decide) (by decide) (by decide) (by decide) (by decide) (by decide) (by decide) (by decide) (by decide) (by decide) (by decide) _ _ _ _ _) (fun _ => x_run_o _ _ _ (by decide) (by decide) (by decide) (by decide) (by decide) (by decide) (by decide) (by decide) (by decide) (by decide) (by decide) (by decide) _ _ _ _ _)
set_option maxHeartbeats 1000000 in
theorem y_run (hL0 : LC m G P R) {r sp : Nat} (hr : r < R) (hcr : cx G 4 r) (hsp : sp ≤ 10) : ∀ (f took missed p tries : Nat) (X E : ms_X) (g : Nat → Nat), (10 - took) * 4 + (3 - missed) < f → IM m G X P N → IA X E P R N T → IB X E P N → y_WT G X N g → X.1 16 r = nI sp → ¬ X.1 18 r = 0 → p < P → missed ≤ P → took ≤ sp → tries ≤ took * P + missed →
    am_W sc 56 33 [.ref (ca G 1 0), .int (nI r), .ref (ca G 4 r), .int (nI p), .int (nI took), .int (nI missed), .int (nI (sp * P)), .int (nI tries)] [] (cm (c_sR m (ca G 24 0) g) G X E) (am_RE (some (.int (nI (x_run P N r f took missed p X).1))) (y_PS m G (x_run P N r f took missed p X).2 P R N T)) := by
  have h1 := hL0.2.1
  have hP := hL0.2.2.2
  have hsp3 : sp * P ≤ 30 := Nat.le_trans (Nat.mul_le_mul hsp (show P ≤ 3 by omega)) (by decide)
  intro f
  induction f with
  | zero => intro took missed p tries X E g h; omega
  | succ f ih =>
    intro took missed p tries X E g hmu hM hA hB hw h16 h18 hp hm ht htr
    have hL := hL0.sR g
    have htP : took * P ≤ sp * P := Nat.mul_le_mul_right P ht
    have e0 : x_run P N r (f + 1) took missed p X = if ¬ X.1 18 r = 0 ∧ nI took < X.1 16 r ∧ missed < P then
      (if (x_adv X P N r p).1 = 1 then x_run P N r f (took + 1) 0 ((p + 1) % P) (x_adv X P N r p).2 else x_run P N r f took (missed + 1) ((p + 1) % P) (x_adv X P N r p).2) else (took, X) := rfl
    have stop : ¬ (took < sp ∧ missed < P) → am_W sc 56 97 [.ref (ca G 1 0), .int (nI r), .ref (ca G 4 r), .int (nI p), .int (nI took), .int (nI missed), .int (nI (sp * P)), .int (nI tries)] [] (cm (c_sR m (ca G 24 0) g) G X E) (am_RE (some (.int (nI (x_run P N r (f + 1) took missed p X).1))) (y_PS m G (x_run P N r (f + 1) took missed p X).2 P R N T)) := by
      intro hs
      rw [if_neg (fun q => hs ⟨by
        have := q.2.1
        rw [h16] at this
        exact (nI_ltI (by omega) (by omega)).mp this, q.2.2⟩)] at e0
      rw [e0]
      refine am_iload iX6_takeStepsOfTick_97 rfl ?_
      exact am_iret iX6_takeStepsOfTick_99 rfl ⟨rfl, g, E, hw, hA, hB, rfl⟩
    refine am_iload iX6_takeStepsOfTick_33 rfl ?_
    refine am_iload iX6_takeStepsOfTick_35 rfl ?_
    refine am_icmp_ge iX6_takeStepsOfTick_37 (fun c1 => ?_) (fun c1 => ?_)
    · refine stop (fun q => ?_)
      have c1' := (nI_leI (by omega) (by omega)).mp c1
      have := Nat.mul_le_mul_right P (show took + 1 ≤ sp from q.1)
      rw [Nat.add_mul] at this
      omega
    · refine am_iload iX6_takeStepsOfTick_40 rfl ?_
      refine am_aload_n iX6_takeStepsOfTick_42 rfl rfl ?_
      refine y_getI (o := 16) hL (by assumption) iX6_takeStepsOfTick_43 fX6_takeStepsOfTick_104 rfl rfl rfl rfl ?_
      rw [h16]
      refine am_icmp_ge iX6_takeStepsOfTick_46 (fun c2 => ?_) (fun c2 => ?_)
      · exact stop (fun q => absurd ((nI_leI (by omega) (by omega)).mp c2) (by omega))
      · have c2' : took < sp := Nat.lt_of_not_le (fun q => c2 ((nI_leI (by omega) (by omega)).mpr q))
        refine am_iload iX6_takeStepsOfTick_49 rfl ?_
        refine am_aload_n iX6_takeStepsOfTick_51 rfl rfl ?_
        refine y_getR hL (by assumption) iX6_takeStepsOfTick_52 fX6_takeStepsOfTick_11 rfl rfl rfl (fun _ => ?_)
        refine y_alen (len := P) hL (by assumption) iX6_takeStepsOfTick_55 rfl rfl rfl rfl ?_
        refine am_icmp_ge iX6_takeStepsOfTick_56 (fun c3 => ?_) (fun c3 => ?_)
        · exact stop (fun q => absurd ((nI_leI (by omega) (by omega)).mp c3) (by omega))
        · have c3' : missed < P := Nat.lt_of_not_le (fun q => c3 ((nI_leI (by omega) (by omega)).mpr q))
          rw [if_pos ⟨h18, by rw [h16]; exact nI_lt c2' (by omega), c3'⟩] at e0
          refine am_aload_n iX6_takeStepsOfTick_59 rfl rfl ?_
          refine am_iload_n iX6_takeStepsOfTick_60 rfl rfl ?_
          refine am_iload_n iX6_takeStepsOfTick_61 rfl rfl ?_
          refine am_eV2r iX6_takeStepsOfTick_62 cX6_takeStepsOfTick_101 mX6_takeStep (y_K hL (by assumption) rfl rfl) rfl rfl rfl (y_takeStep hL0 hM g hA hB hw hr hp) ?_
          rintro m2 ⟨g', E', q1, q2, q3, rfl⟩
          have hL := hL0.sR g'
          have hM2 := hM.adv r p
          have h16' : (x_adv X P N r p).2.1 16 r = nI sp := by rw [x_adv_o _ _ _ _ _ (by decide) (by decide) (by decide) (by decide) (by decide) (by decide) (by decide) (by decide) (by decide) (by decide) (by decide) (by decide)]; exact h16
          have h18' : ¬ (x_adv X P N r p).2.1 18 r = 0 := by rw [x_adv_o _ _ _ _ _ (by decide) (by decide) (by decide) (by decide) (by decide) (by decide) (by decide) (by decide) (by decide) (by decide) (by decide) (by decide)]; exact h18
          have hp2 : (p + 1) % P < P := Nat.mod_lt _ (by omega)
          have fin : ∀ (took' missed' : Nat) (Q : am_Out → am_Mem → Prop), am_W sc 56 33 [.ref (ca G 1 0), .int (nI r), .ref (ca G 4 r), .int (nI ((p + 1) % P)), .int (nI took'), .int (nI missed'), .int (nI (sp * P)), .int (nI (tries + 1))] [] (cm (c_sR m (ca G 24 0) g') G (x_adv X P N r p).2 E') Q → am_W sc 56 81 [.ref (ca G 1 0), .int (nI r), .ref (ca G 4 r), .int (nI p), .int (nI took'), .int (nI missed'), .int (nI (sp * P)), .int (nI tries)] [] (cm (c_sR m (ca G 24 0) g') G (x_adv X P N r p).2 E') Q := by
            intro took' missed' Q h
            refine am_iload_n iX6_takeStepsOfTick_81 rfl rfl ?_
            refine am_aload_n iX6_takeStepsOfTick_82 rfl rfl ?_
            refine y_getR hL (by assumption) iX6_takeStepsOfTick_83 fX6_takeStepsOfTick_11 rfl rfl rfl (fun _ => ?_)
            refine y_alen (len := P) hL (by assumption) iX6_takeStepsOfTick_86 rfl rfl rfl rfl ?_
            refine am_cS2r iX6_takeStepsOfTick_87 cX6_takeStepsOfTick_281 mX6_theNext rfl rfl rfl (y_next hp (by omega)) ?_
            refine am_istore_n_3 iX6_takeStepsOfTick_90 rfl rfl ?_
            refine am_iinc_7 1 iX6_takeStepsOfTick_91 rfl rfl rfl ?_
            refine am_goto iX6_takeStepsOfTick_94 ?_
            rw [nI_1]
            exact h
          refine am_iconst (i := 1) (v := 1) rfl iX6_takeStepsOfTick_65 ?_
          refine am_icmp_ne iX6_takeStepsOfTick_66 (fun c4 => ?_) (fun c4 => ?_)
          · rw [if_neg c4] at e0
            rw [e0]
            refine am_iinc_5 1 iX6_takeStepsOfTick_78 rfl rfl rfl ?_
            rw [nI_1]
            exact fin took (missed + 1) _ (ih took (missed + 1) _ _ _ _ _ (by omega) hM2 q2 q3 q1 h16' h18' hp2 (by omega) ht (by omega))
          · rw [if_pos c4] at e0
            rw [e0]
            refine am_iinc_4 1 iX6_takeStepsOfTick_69 rfl rfl rfl ?_
            refine am_iconst (i := 0) (v := 0) rfl iX6_takeStepsOfTick_72 ?_
            refine am_istore_5 iX6_takeStepsOfTick_73 rfl rfl ?_
            refine am_goto iX6_takeStepsOfTick_75 ?_
            rw [nI_1]
            exact fin (took + 1) 0 _ (ih (took + 1) 0 _ _ _ _ _ (by omega) hM2 q2 q3 q1 h16' h18' hp2 (by omega) (by omega) (by rw [Nat.add_mul]; omega))
theorem y_takeSteps (hL0 : LC m G P R) (hM : IM m G X P N) (g : Nat → Nat) (hA : IA X E P R N T) (hB : IB X E P N) (hw : y_WT G X N g) {r : Nat} (hr : r < R) (hu : ¬ X.1 18 r = 0) :
    am_W sc 56 0 [.ref (ca G 1 0), .int (nI r), .retAddr 1, .retAddr 1, .retAddr 1, .retAddr 1, .retAddr 1, .retAddr 1] [] (cm (c_sR m (ca G 24 0) g) G X E) (am_RE (some (.int (nI (x_run P N r 100 0 0 (nt (X.1 17 r)) X).1))) (y_PS m G (x_run P N r 100 0 0 (nt (X.1 17 r)) X).2 P R N T)) := by
  have h1 := hL0.2.1
  have hP := hL0.2.2.2
  have hL := hL0.sR g
  obtain ⟨p, hp, hpt, hp2⟩ := x_ix_ex (hA.1.2.2.2.2.2.1 r (by omega)).1
  obtain ⟨sp, hsp, hst, hsp2⟩ := x_ix_ex (hA.1.2.2.2.2.2.1 r (by omega)).2.1
  rw [hpt]
  refine am_aload_n iX6_takeStepsOfTick_0 rfl rfl ?_
  refine y_getR hL (by assumption) iX6_takeStepsOfTick_1 fX6_takeStepsOfTick_18 rfl rfl rfl (fun _ => ?_)
  refine am_iload_n iX6_takeStepsOfTick_4 rfl rfl ?_
  refine y_reps (r) hL (by assumption) iX6_takeStepsOfTick_5 (by first | rfl | simp only [nI_add, pk_mul, nI_1, nL0, nL1, nL2, nL3, nL4, nL10, nL30, nL300, nL401]) (hr) (fun _ => ?_)
  refine am_astore_n_2 iX6_takeStepsOfTick_6 rfl rfl ?_
  refine am_aload_n iX6_takeStepsOfTick_7 rfl rfl ?_
  refine y_getI (o := 17) hL (by assumption) iX6_takeStepsOfTick_8 fX6_takeStepsOfTick_284 rfl rfl rfl rfl ?_
  refine am_istore_n_3 iX6_takeStepsOfTick_11 rfl rfl ?_
  refine am_iconst (i := 0) (v := 0) rfl iX6_takeStepsOfTick_12 ?_
  refine am_istore_4 iX6_takeStepsOfTick_13 rfl rfl ?_
  refine am_iconst (i := 0) (v := 0) rfl iX6_takeStepsOfTick_15 ?_
  refine am_istore_5 iX6_takeStepsOfTick_16 rfl rfl ?_
  refine am_aload_n iX6_takeStepsOfTick_18 rfl rfl ?_
  refine y_getI (o := 16) hL (by assumption) iX6_takeStepsOfTick_19 fX6_takeStepsOfTick_104 rfl rfl rfl rfl ?_
  refine am_aload_n iX6_takeStepsOfTick_22 rfl rfl ?_
  refine y_getR hL (by assumption) iX6_takeStepsOfTick_23 fX6_takeStepsOfTick_11 rfl rfl rfl (fun _ => ?_)
  refine y_alen (len := P) hL (by assumption) iX6_takeStepsOfTick_26 rfl rfl rfl rfl ?_
  rw [hp2, hsp2]
  refine am_imul iX6_takeStepsOfTick_27 ?_
  rw [pk_mul]
  refine am_istore_6 iX6_takeStepsOfTick_28 rfl rfl ?_
  refine am_iconst (i := 0) (v := 0) rfl iX6_takeStepsOfTick_30 ?_
  refine am_istore_7 iX6_takeStepsOfTick_31 rfl rfl ?_
  exact y_run hL0 hr (by assumption) (by omega) 100 0 0 p 0 X E g (by omega) hM hA hB hw hsp2 hu hp (by omega) (by omega) (by omega)
theorem IA.time (h : IA X E P R N T) (hT : T + 1 ≤ 1000000) : IA (xU X 0 3 (X.1 0 3 + 1)) E P R N (T + 1) := by
  obtain ⟨a1, a2, a3, a4, a5, a6, a7, a8, a9⟩ := h
  obtain ⟨tm, htm, htt, ht2⟩ := x_ix_ex a8
  refine ⟨a1.time _, a2, a3, a4, a5, a6, fun k hk => ?_, ?_, hT⟩
  · obtain ⟨b1, a, b, b2, b3, b4, b5, b6⟩ := a7 k hk
    refine ⟨b1, a, b, b2, b3, b4, ?_, b6⟩
    rw [xU_s, ht2, nI_1, nt_nI (by omega)]
    omega
  · rw [xU_s, ht2, nI_1]
    exact x_ix_nI (by omega) (by omega)
theorem x_run_dn {r : Nat} (h : X.1 18 r = 0) : ∀ f took missed p, x_run P N r f took missed p X = (took, X)
  | 0, _, _, _ => rfl
  | f + 1, took, missed, p => by
    unfold x_run
    rw [if_neg (fun q => q.1 h)]
set_option maxHeartbeats 1000000 in
theorem y_ticks_loop (hL0 : LC m G P R) {n : Nat} (hn : n ≤ 100) (X0 : ms_X) (hTb : T + 100 ≤ 1000000) : ∀ d k : Nat, k + d = n → ∀ (g : Nat → Nat) (E : ms_X), IM m G (x_tksN X0 P R N k).2 P N → IA (x_tksN X0 P R N k).2 E P R N (T + k) → IB (x_tksN X0 P R N k).2 E P N → y_WT G (x_tksN X0 P R N k).2 N g → ∀ v4 : Value,
    am_W sc 29 11 [.ref (ca G 1 0), .int (nI n), .int (x_tksN X0 P R N k).1, .int (nI k), v4] [] (cm (c_sR m (ca G 24 0) g) G (x_tksN X0 P R N k).2 E) (am_RE (some (.int (x_tksN X0 P R N n).1)) (y_PS m G (x_tksN X0 P R N n).2 P R N (T + n))) := by
  have h1 := hL0.2.1
  have hP := hL0.2.2.2
  intro d
  induction d with
  | zero =>
    intro k hk g E hM hA hB hw v4
    have e : n = k := by omega
    subst e
    have hL := hL0.sR g
    refine am_iload_n iX6_ticks_11 rfl rfl ?_
    refine am_iload_n iX6_ticks_12 rfl rfl ?_
    refine am_icmp_ge iX6_ticks_13 (fun _ => ?_) (fun hc => absurd (nI_le (Nat.le_refl _) (by omega)) hc)
    refine am_iload_n iX6_ticks_77 rfl rfl ?_
    exact am_iret iX6_ticks_78 rfl ⟨rfl, g, E, hw, hA, hB, rfl⟩
  | succ d ih =>
    intro k hk g E hM hA hB hw v4
    have hL := hL0.sR g
    have eS : x_tksN X0 P R N (k + 1) = ((x_tksN X0 P R N k).1 + (x_tick (x_tksN X0 P R N k).2 P R N).1, (x_tick (x_tksN X0 P R N k).2 P R N).2) := rfl
    refine am_iload_n iX6_ticks_11 rfl rfl ?_
    refine am_iload_n iX6_ticks_12 rfl rfl ?_
    refine am_icmp_ge iX6_ticks_13 (fun hc => absurd hc (fun q => absurd ((nI_leI (by omega) (by omega)).mp q) (by omega))) (fun _ => ?_)
    refine am_aload_n iX6_ticks_16 rfl rfl ?_
    refine am_dup iX6_ticks_17 rfl ?_
    refine y_getI (o := 0) hL (by assumption) iX6_ticks_18 fX6_ticks_107 rfl rfl rfl rfl ?_
    refine am_iconst (i := 1) (v := 1) rfl iX6_ticks_21 ?_
    refine am_iadd iX6_ticks_22 ?_
    refine y_putI (o := 0) hL (by assumption) iX6_ticks_23 fX6_ticks_107 rfl rfl rfl rfl rfl rfl ?_
    refine am_iconst (i := 0) (v := 0) rfl iX6_ticks_26 ?_
    refine am_istore_4 iX6_ticks_27 rfl rfl ?_
    have hA1 := hA.time (by omega)
    have hB1 : IB (xU (x_tksN X0 P R N k).2 0 3 ((x_tksN X0 P R N k).2.1 0 3 + 1)) E P N := hB.cg (fun _ => rfl) (fun _ => rfl) (fun _ => rfl)
    have hM1 : IM m G (xU (x_tksN X0 P R N k).2 0 3 ((x_tksN X0 P R N k).2.1 0 3 + 1)) P N := hM
    have hw1 : y_WT G (xU (x_tksN X0 P R N k).2 0 3 ((x_tksN X0 P R N k).2.1 0 3 + 1)) N g := hw.cg (fun _ => rfl)
    unfold x_tick at eS
    generalize xU (x_tksN X0 P R N k).2 0 3 ((x_tksN X0 P R N k).2.1 0 3 + 1) = Z at eS hA1 hB1 hM1 hw1 ⊢
    have inner : ∀ d2 r : Nat, r + d2 = R → ∀ (g : Nat → Nat) (E : ms_X), IM m G (x_tkR Z P N r).2 P N → IA (x_tkR Z P N r).2 E P R N (T + k + 1) → IB (x_tkR Z P N r).2 E P N → y_WT G (x_tkR Z P N r).2 N g →
        am_W sc 29 29 [.ref (ca G 1 0), .int (nI n), .int ((x_tksN X0 P R N k).1 + nI (x_tkR Z P N r).1), .int (nI k), .int (nI r)] [] (cm (c_sR m (ca G 24 0) g) G (x_tkR Z P N r).2 E) (am_RE (some (.int (x_tksN X0 P R N n).1)) (y_PS m G (x_tksN X0 P R N n).2 P R N (T + n))) := by
      intro d2
      induction d2 with
      | zero =>
        intro r hr g E hM hA hB hw
        have e : R = r := by omega
        subst e
        have hL := hL0.sR g
        refine am_iload iX6_ticks_29 rfl ?_
        refine am_aload_n iX6_ticks_31 rfl rfl ?_
        refine y_getR hL (by assumption) iX6_ticks_32 fX6_ticks_18 rfl rfl rfl (fun _ => ?_)
        refine y_alen (len := R) hL (by assumption) iX6_ticks_35 rfl rfl rfl rfl ?_
        refine am_icmp_ge iX6_ticks_36 (fun _ => ?_) (fun hc => absurd (nI_le (Nat.le_refl _) (by omega)) hc)
        refine am_aload_n iX6_ticks_67 rfl rfl ?_
        refine am_eV0v iX6_ticks_68 cX6_ticks_114 mX6_failOverdue (y_K hL (by assumption) rfl rfl) rfl rfl rfl (y_failOverdue hL0 (fun k hk => (hM.1 k hk).2) g hA hB hw) ?_
        rintro m2 ⟨g', q1, rfl⟩
        have hL := hL0.sR g'
        refine am_iinc_3 1 iX6_ticks_71 rfl rfl rfl ?_
        refine am_goto iX6_ticks_74 ?_
        rw [nI_1]
        have := ih (k + 1) (by omega) g' (y_fE (x_tkR Z P N R).2 E N) (by rw [eS]; exact hM.cg (fun _ => x_flN_o _ (by decide) (by decide) N) (fun _ => x_flN_o _ (by decide) (by decide) N)) (by rw [eS]; exact hA.fl) (by rw [eS]; exact hB.fl) (by rw [eS]; exact q1) (.int (nI R))
        rw [eS] at this
        exact this
      | succ d2 ih2 =>
        intro r hr g E hM hA hB hw
        have hL := hL0.sR g
        have hrR : r < R := by omega
        have eR : x_tkR Z P N (r + 1) = ((x_tkR Z P N r).1 + (x_run P N r 100 0 0 (nt ((x_tkR Z P N r).2.1 17 r)) (x_tkR Z P N r).2).1, (x_run P N r 100 0 0 (nt ((x_tkR Z P N r).2.1 17 r)) (x_tkR Z P N r).2).2) := rfl
        refine am_iload iX6_ticks_29 rfl ?_
        refine am_aload_n iX6_ticks_31 rfl rfl ?_
        refine y_getR hL (by assumption) iX6_ticks_32 fX6_ticks_18 rfl rfl rfl (fun _ => ?_)
        refine y_alen (len := R) hL (by assumption) iX6_ticks_35 rfl rfl rfl rfl ?_
        refine am_icmp_ge iX6_ticks_36 (fun hc => absurd hc (fun q => absurd ((nI_leI (by omega) (by omega)).mp q) (by omega))) (fun _ => ?_)
        refine am_aload_n iX6_ticks_39 rfl rfl ?_
        refine y_getR hL (by assumption) iX6_ticks_40 fX6_ticks_18 rfl rfl rfl (fun _ => ?_)
        refine am_iload iX6_ticks_43 rfl ?_
        refine y_reps (r) hL (by assumption) iX6_ticks_45 (by first | rfl | simp only [nI_add, pk_mul, nI_1, nL0, nL1, nL2, nL3, nL4, nL10, nL30, nL300, nL401]) (hrR) (fun _ => ?_)
        refine y_getI (o := 18) hL (by assumption) iX6_ticks_46 fX6_ticks_97 rfl rfl rfl rfl ?_
        refine am_if_eq iX6_ticks_49 (fun c1 => ?_) (fun c1 => ?_)
        · rw [x_run_dn c1] at eR
          refine am_iinc_4 1 iX6_ticks_61 rfl rfl rfl ?_
          refine am_goto iX6_ticks_64 ?_
          rw [nI_1]
          have := ih2 (r + 1) (by omega) g E
          rw [eR] at this
          exact this hM hA hB hw
        · refine am_iload_n iX6_ticks_52 rfl rfl ?_
          refine am_aload_n iX6_ticks_53 rfl rfl ?_
          refine am_iload iX6_ticks_54 rfl ?_
          refine am_eV1r iX6_ticks_56 cX6_ticks_110 mX6_takeStepsOfTick (y_K hL (by assumption) rfl rfl) rfl rfl rfl (y_takeSteps hL0 hM g hA hB hw hrR c1) ?_
          rintro m2 ⟨g', E', q1, q2, q3, rfl⟩
          have hL := hL0.sR g'
          refine am_iadd iX6_ticks_59 ?_
          refine am_istore_n_2 iX6_ticks_60 rfl rfl ?_
          refine am_iinc_4 1 iX6_ticks_61 rfl rfl rfl ?_
          refine am_goto iX6_ticks_64 ?_
          rw [nI_1, Int32.add_assoc, nI_add]
          have := ih2 (r + 1) (by omega) g' E'
          rw [eR] at this
          exact this (hM.run r _ _ _ _) q2 q3 q1
    have := inner R 0 (by omega) g E hM1 hA1 hB1 hw1
    rw [show (x_tkR Z P N 0).1 = 0 from rfl, show nI 0 = 0 from rfl, Int32.add_zero] at this
    exact this
end
