/-! the class: what is asked of replicas, logs, sessions, counts -/
section
variable {sc : Nat × (Nat → Int32)} {m : am_Mem} {G : cg_G} {X E : ms_X} {P R N T : Nat}
theorem nI_nn {j : Nat} (hj : j < 2 ^ 31) : ¬ nI j < 0 := by
  rw [Int32.lt_iff_toInt_lt, Int32.toInt_zero, nI_toInt hj]
  omega
theorem x_ix_rg {a : Int32} {B : Nat} (h : x_ix a B) (hB : B < 2 ^ 31) : x_rg a 0 ((B : Int) - 1) = true := by
  have hb := h.1
  rw [h.2]
  refine decide_eq_true ?_
  rw [nI_toInt (by omega)]
  omega
theorem y_needQ (hL : LC m G P R) {kd a : Int32} (hq : x_isQ P kd a = true) : am_W sc 46 0 [.ref (ca G 1 0), .int kd, .int a] [] (cm m G X E) (am_R1 none (cm m G X E)) := by
  have h1 := hL.2.1
  have hP := hL.2.2.2
  obtain ⟨j, hj, rfl, q1, q2, q3⟩ := x_isQ_k hq
  refine am_iload_n iX6_needQuestion_0 rfl rfl ?_
  refine am_bipush (i := 9) (v := 9) rfl iX6_needQuestion_1 ?_
  refine am_cS2v iX6_needQuestion_3 cX6_needQuestion_39 mX6_needIndex rfl rfl rfl (y_needIndex (B := 9) _ (by decide) (x_ix_rg (x_ix_nI hj (by omega)) (by decide))) ?_
  refine am_iload_n iX6_needQuestion_6 rfl rfl ?_
  refine am_bipush (i := 8) (v := 8) rfl iX6_needQuestion_7 ?_
  refine am_icmp_ne iX6_needQuestion_9 (fun c1 => ?_) (fun c1 => ?_)
  · have c1' : ¬ j = 8 := fun q => c1 (congrArg nI q)
    refine am_iload_n iX6_needQuestion_29 rfl rfl ?_
    refine am_iconst (i := 4) (v := 4) rfl iX6_needQuestion_30 ?_
    have last : (j < 4 ∨ j = 7) → am_W sc 46 49 [.ref (ca G 1 0), .int (nI j), .int a] [] (cm m G X E) (am_R1 none (cm m G X E)) := by
      intro hj4
      refine am_iload_n iX6_needQuestion_49 rfl rfl ?_
      refine am_bipush (i := 30) (v := 30) rfl iX6_needQuestion_50 ?_
      refine am_cS2v iX6_needQuestion_52 cX6_needQuestion_39 mX6_needIndex rfl rfl rfl (y_needIndex (B := 30) _ (by decide) (x_ix_rg (q1 hj4) (by decide))) ?_
      exact am_vret iX6_needQuestion_55 rfl (⟨rfl, rfl⟩)
    refine am_icmp_lt iX6_needQuestion_31 (fun c2 => ?_) (fun c2 => ?_)
    · exact last (Or.inl ((nI_ltI (a := j) (b := 4) (by omega) (by omega)).mp c2))
    · refine am_iload_n iX6_needQuestion_34 rfl rfl ?_
      refine am_bipush (i := 6) (v := 6) rfl iX6_needQuestion_35 ?_
      have c2' : ¬ j < 4 := fun q => c2 ((nI_ltI (a := j) (b := 4) (by omega) (by omega)).mpr q)
      refine am_icmp_gt iX6_needQuestion_37 (fun c3 => ?_) (fun c3 => ?_)
      · have c3' := (nI_ltI (a := 6) (b := j) (by omega) (by omega)).mp c3
        exact last (Or.inr (by omega))
      · have c3' : ¬ 6 < j := fun q => c3 ((nI_ltI (a := 6) (b := j) (by omega) (by omega)).mpr q)
        refine am_iload_n iX6_needQuestion_40 rfl rfl ?_
        refine am_bipush (i := 10) (v := 10) rfl iX6_needQuestion_41 ?_
        refine am_cS2v iX6_needQuestion_43 cX6_needQuestion_39 mX6_needIndex rfl rfl rfl (y_needIndex (B := 10) _ (by decide) (x_ix_rg (q2 (by omega)) (by decide))) ?_
        refine am_goto iX6_needQuestion_46 ?_
        exact am_vret iX6_needQuestion_55 rfl (⟨rfl, rfl⟩)
  · have c1' : j = 8 := (nI_eq (a := j) (b := 8) (by omega) (by omega)).mp c1
    have q4 := q3 c1'
    refine am_iload_n iX6_needQuestion_12 rfl rfl ?_
    refine am_iconst (i := -1) (v := -1) rfl iX6_needQuestion_13 ?_
    refine am_icmp_eq iX6_needQuestion_14 (fun c2 => ?_) (fun c2 => ?_)
    · exact am_vret iX6_needQuestion_55 rfl (⟨rfl, rfl⟩)
    · have q5 := of_decide_eq_true q4
      have q6 : ¬ a.toInt = -1 := fun q => c2 (Int32.toInt_inj.mp (q.trans (by decide)))
      refine am_iload_n iX6_needQuestion_17 rfl rfl ?_
      refine am_aload_n iX6_needQuestion_18 rfl rfl ?_
      refine y_getR hL (by assumption) iX6_needQuestion_19 fX6_needQuestion_11 rfl rfl rfl (fun _ => ?_)
      refine y_alen (len := P) hL (by assumption) iX6_needQuestion_22 rfl rfl rfl rfl ?_
      refine am_cS2v iX6_needQuestion_23 cX6_needQuestion_39 mX6_needIndex rfl rfl rfl (y_needIndex a (by omega) (decide_eq_true ⟨by omega, q5.2⟩)) ?_
      refine am_goto iX6_needQuestion_26 ?_
      exact am_vret iX6_needQuestion_55 rfl (⟨rfl, rfl⟩)
theorem y_needQ_x (hL : LC m G P R) (hrm : c_rm m) {kd a : Int32} (hq : x_isQ P kd a = false) : am_W sc 46 0 [.ref (ca G 1 0), .int kd, .int a] [] (cm m G X E) (am_R2 (am_n m + 1) (am_new (cm m G X E) 8 0 6)) := by
  have h1 := hL.2.1
  have hP := hL.2.2.2
  have hrm' : c_rm (cm m G X E) := hrm
  refine am_iload_n iX6_needQuestion_0 rfl rfl ?_
  refine am_bipush (i := 9) (v := 9) rfl iX6_needQuestion_1 ?_
  cases hk : x_rg kd 0 8
  · refine am_xS2 iX6_needQuestion_3 cX6_needQuestion_39 mX6_needIndex rfl rfl rfl (y_needIndex_x (m := cm m G X E) (B := 9) hrm' kd (by decide) hk) (am_out rfl ?_)
    exact ⟨rfl, rfl⟩
  · refine am_cS2v iX6_needQuestion_3 cX6_needQuestion_39 mX6_needIndex rfl rfl rfl (y_needIndex (B := 9) kd (by decide) hk) ?_
    obtain ⟨j, hj, hjt, rfl⟩ := x_rg_ex 9 hk (by omega)
    unfold x_isQ at hq
    rw [if_neg (fun z => z.elim (fun z => absurd z (nI_nn (by omega))) (fun z => z ((nI_leI (a := j) (b := 8) (by omega) (by omega)).mpr (by omega))))] at hq
    have c1 : (nI j < 4 ∨ nI j = 7) ↔ (j < 4 ∨ j = 7) := by
      rw [show (nI j < 4) ↔ j < 4 from nI_ltI (a := j) (b := 4) (by omega) (by omega), show (nI j = 7) ↔ j = 7 from nI_eq (a := j) (b := 7) (by omega) (by omega)]
    have c2 : (nI j < 7) ↔ j < 7 := nI_ltI (a := j) (b := 7) (by omega) (by omega)
    refine am_iload_n iX6_needQuestion_6 rfl rfl ?_
    refine am_bipush (i := 8) (v := 8) rfl iX6_needQuestion_7 ?_
    refine am_icmp_ne iX6_needQuestion_9 (fun d1 => ?_) (fun d1 => ?_)
    · have d1' : ¬ j = 8 := fun q => d1 (congrArg nI q)
      refine am_iload_n iX6_needQuestion_29 rfl rfl ?_
      refine am_iconst (i := 4) (v := 4) rfl iX6_needQuestion_30 ?_
      have last : (j < 4 ∨ j = 7) → am_W sc 46 49 [.ref (ca G 1 0), .int (nI j), .int a] [] (cm m G X E) (am_R2 (am_n m + 1) (am_new (cm m G X E) 8 0 6)) := by
        intro hj4
        rw [if_pos (c1.mpr hj4)] at hq
        refine am_iload_n iX6_needQuestion_49 rfl rfl ?_
        refine am_bipush (i := 30) (v := 30) rfl iX6_needQuestion_50 ?_
        refine am_xS2 iX6_needQuestion_52 cX6_needQuestion_39 mX6_needIndex rfl rfl rfl (y_needIndex_x (m := cm m G X E) (B := 30) hrm' a (by decide) hq) (am_out rfl ?_)
        exact ⟨rfl, rfl⟩
      refine am_icmp_lt iX6_needQuestion_31 (fun d2 => ?_) (fun d2 => ?_)
      · exact last (Or.inl ((nI_ltI (a := j) (b := 4) (by omega) (by omega)).mp d2))
      · have d2' : ¬ j < 4 := fun q => d2 ((nI_ltI (a := j) (b := 4) (by omega) (by omega)).mpr q)
        refine am_iload_n iX6_needQuestion_34 rfl rfl ?_
        refine am_bipush (i := 6) (v := 6) rfl iX6_needQuestion_35 ?_
        refine am_icmp_gt iX6_needQuestion_37 (fun d3 => ?_) (fun d3 => ?_)
        · have d3' := (nI_ltI (a := 6) (b := j) (by omega) (by omega)).mp d3
          exact last (Or.inr (by omega))
        · have d3' : ¬ 6 < j := fun q => d3 ((nI_ltI (a := 6) (b := j) (by omega) (by omega)).mpr q)
          rw [if_neg (fun z => absurd (c1.mp z) (by omega)), if_pos (c2.mpr (by omega))] at hq
          refine am_iload_n iX6_needQuestion_40 rfl rfl ?_
          refine am_bipush (i := 10) (v := 10) rfl iX6_needQuestion_41 ?_
          refine am_xS2 iX6_needQuestion_43 cX6_needQuestion_39 mX6_needIndex rfl rfl rfl (y_needIndex_x (m := cm m G X E) (B := 10) hrm' a (by decide) hq) (am_out rfl ?_)
          exact ⟨rfl, rfl⟩
    · have d1' : j = 8 := (nI_eq (a := j) (b := 8) (by omega) (by omega)).mp d1
      rw [if_neg (fun z => absurd (c1.mp z) (by omega)), if_neg (fun z => absurd (c2.mp z) (by omega))] at hq
      have hq' := of_decide_eq_false hq
      refine am_iload_n iX6_needQuestion_12 rfl rfl ?_
      refine am_iconst (i := -1) (v := -1) rfl iX6_needQuestion_13 ?_
      refine am_icmp_eq iX6_needQuestion_14 (fun d2 => ?_) (fun d2 => ?_)
      · exact absurd (by rw [d2, show (-1 : Int32).toInt = -1 by decide]; omega) hq'
      · refine am_iload_n iX6_needQuestion_17 rfl rfl ?_
        refine am_aload_n iX6_needQuestion_18 rfl rfl ?_
        refine y_getR hL (by assumption) iX6_needQuestion_19 fX6_needQuestion_11 rfl rfl rfl (fun _ => ?_)
        refine y_alen (len := P) hL (by assumption) iX6_needQuestion_22 rfl rfl rfl rfl ?_
        refine am_xS2 iX6_needQuestion_23 cX6_needQuestion_39 mX6_needIndex rfl rfl rfl (y_needIndex_x (m := cm m G X E) hrm' a (by omega) (decide_eq_false (fun z => hq' ⟨by omega, z.2⟩))) (am_out rfl ?_)
        exact ⟨rfl, rfl⟩
set_option maxHeartbeats 1000000 in
theorem y_needToken_g (hL : LC m G P R) (hrm : c_rm m) (t : Int64) {Q : am_Out → am_Mem → Prop} (hok : x_isTok X P t = true → Q (.inl none) (cm m G X E)) (hbad : x_isTok X P t = false → Q (.inr (am_n m + 1)) (am_new (cm m G X E) 9 0 6)) : am_W sc 47 0 [.ref (ca G 1 0), .long t, .retAddr 1, .retAddr 1, .retAddr 1, .retAddr 1, .retAddr 1] [] (cm m G X E) Q := by
  have h1 := hL.2.1
  have hP := hL.2.2.2
  have bad : (t.toInt < (0 : Int64).toInt ∨ ¬ (x_hi t).toInt < (134217728 : Int64).toInt ∨ ¬ (t &&& 1048575) = x_chk (x_hi t)) → ∀ w : Int64, am_W sc 47 32 [.ref (ca G 1 0), .long t, .retAddr 1, .long w, .retAddr 1, .retAddr 1, .retAddr 1] [] (cm m G X E) Q := by
    intro hb w
    refine am_throw tX6_needToken_32 rfl iX6_needToken_32 iX6_needToken_35 iX6_needToken_36 iX6_needToken_38 iX6_needToken_41 (Nat.le_of_ble_eq_true rfl) (Nat.le_of_ble_eq_true rfl) ?_ ?_ ?_
    · have := hrm.1; show am_n m + 1 ≤ _; omega
    · have := hrm.2; show am_u m + 6 ≤ _; omega
    · exact hbad (by unfold x_isTok; rw [if_pos hb])
  refine am_lload_n iX6_needToken_0 rfl rfl ?_
  refine am_bipush (i := 20) (v := 20) rfl iX6_needToken_1 ?_
  refine am_lushr iX6_needToken_3 ?_
  refine am_lstore_n_3 iX6_needToken_4 rfl rfl ?_
  refine am_lload_n iX6_needToken_5 rfl rfl ?_
  refine am_lconst (i := 0) (v := 0) rfl iX6_needToken_6 ?_
  refine am_lcmp iX6_needToken_7 ?_
  refine am_if_lt iX6_needToken_8 (fun c1 => ?_) (fun c1 => ?_)
  · exact bad (Or.inl (lg_lt0.mp c1)) _
  · have c1' : ¬ t.toInt < (0 : Int64).toInt := fun q => c1 (lg_lt0.mpr q)
    rw [hi_eq c1']
    refine am_lload_n iX6_needToken_11 rfl rfl ?_
    refine am_ldc2 (v := 134217728) (wd_544) iX6_needToken_12 ?_
    refine am_lcmp iX6_needToken_15 ?_
    refine am_if_ge iX6_needToken_16 (fun c2 => ?_) (fun c2 => ?_)
    · exact bad (Or.inr (Or.inl (fun q => absurd (lg_lt0.mpr q) (Int32.not_lt.mpr c2)))) _
    · have c2' := lg_lt0.mp (Int32.not_le.mp c2)
      refine am_lload_n iX6_needToken_19 rfl rfl ?_
      refine am_ldc2 (v := 1048575) (wd_545) iX6_needToken_20 ?_
      refine am_land iX6_needToken_23 ?_
      refine am_lload_n iX6_needToken_24 rfl rfl ?_
      refine am_cS1r iX6_needToken_25 cX6_needToken_251 mX6_checkOf rfl rfl rfl (y_checkOf _) ?_
      refine am_lcmp iX6_needToken_28 ?_
      refine am_if_eq iX6_needToken_29 (fun c3 => ?_) (fun c3 => ?_)
      · have c3' := lg_eq0.mp c3
        have hT : x_isTok X P t = x_tkN X P t 3 := by
          unfold x_isTok
          rw [if_neg (fun z => z.elim c1' (fun z => z.elim (fun z => z c2') (fun z => z c3')))]
        have key : ∀ d p : Nat, p + d = 3 → x_tkN X P t p = true → ∀ w6 : Value, am_W sc 47 45 [.ref (ca G 1 0), .long t, .retAddr 1, .long (x_hi t), .retAddr 1, .int (nI p), w6] [] (cm m G X E) Q := by
          intro d
          induction d with
          | zero =>
            intro p hp ht w6
            have e : p = 3 := by omega
            subst e
            refine am_iload iX6_needToken_45 rfl ?_
            refine am_iconst (i := 3) (v := 3) rfl iX6_needToken_47 ?_
            refine am_icmp_ge iX6_needToken_48 (fun _ => ?_) (fun hc => absurd (by decide) hc)
            exact am_vret iX6_needToken_105 rfl (hok (hT.trans ht))
          | succ d ih =>
            intro p hp ht w6
            have hp3 : p < 3 := by omega
            have e1 : x_tkN X P t (p + 1) = (x_tkN X P t p && decide (x_pos t (nI p) ≤ (if p < P then X.1 1 p else 0))) := rfl
            refine am_iload iX6_needToken_45 rfl ?_
            refine am_iconst (i := 3) (v := 3) rfl iX6_needToken_47 ?_
            refine am_icmp_ge iX6_needToken_48 (fun hc => absurd hc (fun q => absurd ((nI_leI (a := 3) (b := p) (by omega) (by omega)).mp q) (by omega))) (fun _ => ?_)
            have fin : ∀ w : Int32, w = (if p < P then X.1 1 p else 0) → am_W sc 47 75 [.ref (ca G 1 0), .long t, .retAddr 1, .long (x_hi t), .retAddr 1, .int (nI p), w6] [.int w] (cm m G X E) Q := by
              intro w hw
              rw [← hw] at e1
              refine am_istore_6 iX6_needToken_75 rfl rfl ?_
              refine am_lload_n iX6_needToken_77 rfl rfl ?_
              refine am_iload iX6_needToken_78 rfl ?_
              refine am_cS2r iX6_needToken_80 cX6_needToken_230 mX6_positionIn rfl rfl rfl (y_positionIn t hp3) ?_
              refine am_iload iX6_needToken_83 rfl ?_
              refine am_icmp_le iX6_needToken_85 (fun c4 => ?_) (fun c4 => ?_)
              · refine am_iinc_5 1 iX6_needToken_99 rfl rfl rfl ?_
                refine am_goto iX6_needToken_102 ?_
                rw [nI_1]
                exact ih (p + 1) (by omega) (by rw [e1, ht, decide_eq_true c4]; rfl) _
              · have mono : ∀ d2 q, q + d2 = 3 → x_tkN X P t q = false → x_tkN X P t 3 = false := by
                  intro d2
                  induction d2 with
                  | zero => intro q hq h; rw [show 3 = q by omega]; exact h
                  | succ d2 ih2 => intro q hq h; exact ih2 (q + 1) (by omega) (by show (x_tkN X P t q && _) = false; rw [h]; rfl)
                have hbf := mono d (p + 1) (by omega) (by rw [e1, ht, decide_eq_false c4]; rfl)
                refine am_throwW tX6_needToken_88 rfl iX6_needToken_88 iX6_needToken_91 iX6_needToken_92 iX6_needToken_95 iX6_needToken_98 (Nat.le_of_ble_eq_true rfl) (Nat.le_of_ble_eq_true rfl) ?_ ?_ ?_
                · have := hrm.1; show am_n m + 1 ≤ _; omega
                · have := hrm.2; show am_u m + 6 ≤ _; omega
                · exact hbad (hT.trans hbf)
            refine am_iload iX6_needToken_51 rfl ?_
            refine am_aload_n iX6_needToken_53 rfl rfl ?_
            refine y_getR hL (by assumption) iX6_needToken_54 fX6_needToken_11 rfl rfl rfl (fun _ => ?_)
            refine y_alen (len := P) hL (by assumption) iX6_needToken_57 rfl rfl rfl rfl ?_
            refine am_icmp_ge iX6_needToken_58 (fun c5 => ?_) (fun c5 => ?_)
            · refine am_iconst (i := 0) (v := 0) rfl iX6_needToken_74 ?_
              exact fin 0 (if_neg (fun q => absurd ((nI_leI (by omega) (by omega)).mp c5) (by omega))).symm
            · have c5' : p < P := Nat.lt_of_not_le (fun q => c5 ((nI_leI (by omega) (by omega)).mpr q))
              refine am_aload_n iX6_needToken_61 rfl rfl ?_
              refine y_getR hL (by assumption) iX6_needToken_62 fX6_needToken_11 rfl rfl rfl (fun _ => ?_)
              refine am_iload iX6_needToken_65 rfl ?_
              refine y_logs (p) hL (by assumption) iX6_needToken_67 (by first | rfl | simp only [nI_add, pk_mul, nI_1, nL0, nL1, nL2, nL3, nL4, nL10, nL30, nL300, nL401]) (c5') (fun _ => ?_)
              refine y_getI (o := 1) hL (by assumption) iX6_needToken_68 fX6_needToken_62 rfl rfl rfl rfl ?_
              refine am_goto iX6_needToken_71 ?_
              exact fin _ (if_pos c5').symm
        refine am_iconst (i := 0) (v := 0) rfl iX6_needToken_42 ?_
        refine am_istore_5 iX6_needToken_43 rfl rfl ?_
        exact key 3 0 rfl rfl _
      · exact bad (Or.inr (Or.inr (fun q => c3 (lg_eq0.mpr q)))) _
theorem y_needToken (hL : LC m G P R) (hrm : c_rm m) (t : Int64) (h : x_isTok X P t = true) : am_W sc 47 0 [.ref (ca G 1 0), .long t, .retAddr 1, .retAddr 1, .retAddr 1, .retAddr 1, .retAddr 1] [] (cm m G X E) (am_R1 none (cm m G X E)) :=
  y_needToken_g hL hrm t (fun _ => ⟨rfl, rfl⟩) (fun q => by rw [h] at q; cases q)
theorem y_needToken_x (hL : LC m G P R) (hrm : c_rm m) (t : Int64) (h : x_isTok X P t = false) : am_W sc 47 0 [.ref (ca G 1 0), .long t, .retAddr 1, .retAddr 1, .retAddr 1, .retAddr 1, .retAddr 1] [] (cm m G X E) (am_R2 (am_n m + 1) (am_new (cm m G X E) 9 0 6)) :=
  y_needToken_g hL hrm t (fun q => by rw [h] at q; cases q) (fun _ => ⟨rfl, rfl⟩)
theorem y_value (hI : INV m G X E P R N T) (hrm : c_rm m) (hT : T + 100 ≤ 1000000) (r kd a : Int32) : am_W sc 36 0 [.ref (ca G 1 0), .int r, .int kd, .int a] [] (cm m G X E) (y_Q ((x_value X P R r kd a).2.1 0 2) (kdf ((x_value X P R r kd a).2.1 0 2)) (.long (x_value X P R r kd a).1) (y_POST m G (x_value X P R r kd a).2 P R (T + 100))) := by
  have hL := hI.1
  have h1 := hL.2.1
  have hP := hL.2.2.2
  unfold x_value
  refine am_iload_n iX6_value_0 rfl rfl ?_
  refine am_aload_n iX6_value_1 rfl rfl ?_
  refine y_getR hL (by assumption) iX6_value_2 fX6_value_18 rfl rfl rfl (fun _ => ?_)
  refine y_alen (len := R) hL (by assumption) iX6_value_5 rfl rfl rfl rfl ?_
  cases hr : x_rg r 0 ((R : Int) - 1)
  · refine am_xS2 iX6_value_6 cX6_value_39 mX6_needIndex rfl rfl rfl (y_needIndex_x (m := cm m G X E) hrm r (by omega) hr) (am_out rfl ?_)
    exact y_thr hI (by omega) hT (t := 1) (by decide) 8 _
  · refine am_cS2v iX6_value_6 cX6_value_39 mX6_needIndex rfl rfl rfl (y_needIndex r (by omega) hr) ?_
    obtain ⟨n, hn, hnt, rfl⟩ := x_rg_ex R hr (by omega)
    rw [hnt]
    refine am_aload_n iX6_value_9 rfl rfl ?_
    refine am_iload_n iX6_value_10 rfl rfl ?_
    refine am_iload_n iX6_value_11 rfl rfl ?_
    cases hq : x_isQ P kd a
    · refine am_xV2 iX6_value_12 cX6_value_139 mX6_needQuestion (y_K hL (by assumption) rfl rfl) rfl rfl rfl (y_needQ_x hL hrm hq) (am_out rfl ?_)
      exact y_thr hI (by omega) hT (t := 1) (by decide) 8 _
    · refine am_cV2v iX6_value_12 cX6_value_139 mX6_needQuestion (y_K hL (by assumption) rfl rfl) rfl rfl rfl (y_needQ hL hq) ?_
      rw [if_pos (show (true && true) = true from rfl), ← cm_th (X := X) (t := 0)]
      refine am_aload_n iX6_value_15 rfl rfl ?_
      refine y_getR hL (by assumption) iX6_value_16 fX6_value_18 rfl rfl rfl (fun _ => ?_)
      refine am_iload_n iX6_value_19 rfl rfl ?_
      refine y_reps (n) hL (by assumption) iX6_value_20 (by first | rfl | simp only [nI_add, pk_mul, nI_1, nL0, nL1, nL2, nL3, nL4, nL10, nL30, nL300, nL401]) (hn) (fun _ => ?_)
      refine y_getR hL (by assumption) iX6_value_21 fX6_value_194 rfl rfl rfl (fun _ => ?_)
      refine am_iload_n iX6_value_24 rfl rfl ?_
      refine am_iload_n iX6_value_25 rfl rfl ?_
      refine am_aload_n iX6_value_26 rfl rfl ?_
      refine y_getR hL (by assumption) iX6_value_27 fX6_value_11 rfl rfl rfl (fun _ => ?_)
      refine y_alen (len := P) hL (by assumption) iX6_value_30 rfl rfl rfl rfl ?_
      refine am_cV3r iX6_value_31 cX6_value_197 mX5_answerTo (y_K hL (by assumption) rfl rfl) rfl rfl rfl (y_answerTo hL (by assumption) hq ((hI.2.2.1.th 0).S (show n < 8 by omega))) ?_
      exact am_lret iX6_value_34 rfl ⟨y_ok1 (hI.th 0) (by omega) hT, Or.inl ⟨rfl, rfl⟩⟩
theorem y_at (hI : INV m G X E P R N T) (hrm : c_rm m) (hT : T + 100 ≤ 1000000) (r p : Int32) : am_W sc 37 0 [.ref (ca G 1 0), .int r, .int p] [] (cm m G X E) (y_Q ((x_at X P R r p).2.1 0 2) (kdf ((x_at X P R r p).2.1 0 2)) (.int (x_at X P R r p).1) (y_POST m G (x_at X P R r p).2 P R (T + 100))) := by
  have hL := hI.1
  have h1 := hL.2.1
  have hP := hL.2.2.2
  unfold x_at
  refine am_iload_n iX6_at_0 rfl rfl ?_
  refine am_aload_n iX6_at_1 rfl rfl ?_
  refine y_getR hL (by assumption) iX6_at_2 fX6_at_18 rfl rfl rfl (fun _ => ?_)
  refine y_alen (len := R) hL (by assumption) iX6_at_5 rfl rfl rfl rfl ?_
  cases hr : x_rg r 0 ((R : Int) - 1)
  · refine am_xS2 iX6_at_6 cX6_at_39 mX6_needIndex rfl rfl rfl (y_needIndex_x (m := cm m G X E) hrm r (by omega) hr) (am_out rfl ?_)
    exact y_thr hI (by omega) hT (t := 1) (by decide) 8 _
  · refine am_cS2v iX6_at_6 cX6_at_39 mX6_needIndex rfl rfl rfl (y_needIndex r (by omega) hr) ?_
    obtain ⟨n, hn, hnt, rfl⟩ := x_rg_ex R hr (by omega)
    rw [hnt]
    refine am_iload_n iX6_at_9 rfl rfl ?_
    refine am_aload_n iX6_at_10 rfl rfl ?_
    refine y_getR hL (by assumption) iX6_at_11 fX6_at_11 rfl rfl rfl (fun _ => ?_)
    refine y_alen (len := P) hL (by assumption) iX6_at_14 rfl rfl rfl rfl ?_
    cases hp : x_rg p 0 ((P : Int) - 1)
    · refine am_xS2 iX6_at_15 cX6_at_39 mX6_needIndex rfl rfl rfl (y_needIndex_x (m := cm m G X E) hrm p (by omega) hp) (am_out rfl ?_)
      exact y_thr hI (by omega) hT (t := 1) (by decide) 8 _
    · refine am_cS2v iX6_at_15 cX6_at_39 mX6_needIndex rfl rfl rfl (y_needIndex p (by omega) hp) ?_
      obtain ⟨j, hj, hjt, rfl⟩ := x_rg_ex P hp (by omega)
      rw [hjt, if_pos (show (true && true) = true from rfl)]
      refine am_aload_n iX6_at_18 rfl rfl ?_
      refine y_getR hL (by assumption) iX6_at_19 fX6_at_18 rfl rfl rfl (fun _ => ?_)
      refine am_iload_n iX6_at_22 rfl rfl ?_
      refine y_reps (n) hL (by assumption) iX6_at_23 (by first | rfl | simp only [nI_add, pk_mul, nI_1, nL0, nL1, nL2, nL3, nL4, nL10, nL30, nL300, nL401]) (hn) (fun _ => ?_)
      refine y_getR hL (by assumption) iX6_at_24 fX6_at_127 rfl rfl rfl (fun _ => ?_)
      refine am_iload_n iX6_at_27 rfl rfl ?_
      refine y_iald (j) hL (by assumption) iX6_at_28 (by first | rfl | simp only [nI_add, pk_mul, nI_1, nL0, nL1, nL2, nL3, nL4, nL10, nL30, nL300, nL401]) ((show j < 3 by omega)) rfl rfl rfl rfl ?_
      rw [← cm_th (X := X) (t := 0)]
      exact am_iret iX6_at_29 rfl ⟨y_ok1 (hI.th 0) (by omega) hT, Or.inl ⟨rfl, rfl⟩⟩
theorem y_kept (hI : INV m G X E P R N T) (hrm : c_rm m) (hT : T + 100 ≤ 1000000) (r p : Int32) : am_W sc 38 0 [.ref (ca G 1 0), .int r, .int p] [] (cm m G X E) (y_Q ((x_kept X P R r p).2.1 0 2) (kdf ((x_kept X P R r p).2.1 0 2)) (.int (x_kept X P R r p).1) (y_POST m G (x_kept X P R r p).2 P R (T + 100))) := by
  have hL := hI.1
  have h1 := hL.2.1
  have hP := hL.2.2.2
  unfold x_kept
  refine am_iload_n iX6_kept_0 rfl rfl ?_
  refine am_aload_n iX6_kept_1 rfl rfl ?_
  refine y_getR hL (by assumption) iX6_kept_2 fX6_kept_18 rfl rfl rfl (fun _ => ?_)
  refine y_alen (len := R) hL (by assumption) iX6_kept_5 rfl rfl rfl rfl ?_
  cases hr : x_rg r 0 ((R : Int) - 1)
  · refine am_xS2 iX6_kept_6 cX6_kept_39 mX6_needIndex rfl rfl rfl (y_needIndex_x (m := cm m G X E) hrm r (by omega) hr) (am_out rfl ?_)
    exact y_thr hI (by omega) hT (t := 1) (by decide) 8 _
  · refine am_cS2v iX6_kept_6 cX6_kept_39 mX6_needIndex rfl rfl rfl (y_needIndex r (by omega) hr) ?_
    obtain ⟨n, hn, hnt, rfl⟩ := x_rg_ex R hr (by omega)
    rw [hnt]
    refine am_iload_n iX6_kept_9 rfl rfl ?_
    refine am_aload_n iX6_kept_10 rfl rfl ?_
    refine y_getR hL (by assumption) iX6_kept_11 fX6_kept_11 rfl rfl rfl (fun _ => ?_)
    refine y_alen (len := P) hL (by assumption) iX6_kept_14 rfl rfl rfl rfl ?_
    cases hp : x_rg p 0 ((P : Int) - 1)
    · refine am_xS2 iX6_kept_15 cX6_kept_39 mX6_needIndex rfl rfl rfl (y_needIndex_x (m := cm m G X E) hrm p (by omega) hp) (am_out rfl ?_)
      exact y_thr hI (by omega) hT (t := 1) (by decide) 8 _
    · refine am_cS2v iX6_kept_15 cX6_kept_39 mX6_needIndex rfl rfl rfl (y_needIndex p (by omega) hp) ?_
      obtain ⟨j, hj, hjt, rfl⟩ := x_rg_ex P hp (by omega)
      rw [hjt, if_pos (show (true && true) = true from rfl)]
      refine am_aload_n iX6_kept_18 rfl rfl ?_
      refine y_getR hL (by assumption) iX6_kept_19 fX6_kept_18 rfl rfl rfl (fun _ => ?_)
      refine am_iload_n iX6_kept_22 rfl rfl ?_
      refine y_reps (n) hL (by assumption) iX6_kept_23 (by first | rfl | simp only [nI_add, pk_mul, nI_1, nL0, nL1, nL2, nL3, nL4, nL10, nL30, nL300, nL401]) (hn) (fun _ => ?_)
      refine y_getR hL (by assumption) iX6_kept_24 fX6_kept_120 rfl rfl rfl (fun _ => ?_)
      refine am_iload_n iX6_kept_27 rfl rfl ?_
      refine y_iald (j) hL (by assumption) iX6_kept_28 (by first | rfl | simp only [nI_add, pk_mul, nI_1, nL0, nL1, nL2, nL3, nL4, nL10, nL30, nL300, nL401]) ((show j < 3 by omega)) rfl rfl rfl rfl ?_
      rw [← cm_th (X := X) (t := 0)]
      exact am_iret iX6_kept_29 rfl ⟨y_ok1 (hI.th 0) (by omega) hT, Or.inl ⟨rfl, rfl⟩⟩
theorem y_log (hI : INV m G X E P R N T) (hrm : c_rm m) (hT : T + 100 ≤ 1000000) (p w : Int32) : am_W sc 39 0 [.ref (ca G 1 0), .int p, .int w] [] (cm m G X E) (y_Q ((x_log X P p w).2.1 0 2) (kdf ((x_log X P p w).2.1 0 2)) (.int (x_log X P p w).1) (y_POST m G (x_log X P p w).2 P R (T + 100))) := by
  have hL := hI.1
  have h1 := hL.2.1
  have hP := hL.2.2.2
  unfold x_log
  refine am_iload_n iX6_log_0 rfl rfl ?_
  refine am_aload_n iX6_log_1 rfl rfl ?_
  refine y_getR hL (by assumption) iX6_log_2 fX6_log_11 rfl rfl rfl (fun _ => ?_)
  refine y_alen (len := P) hL (by assumption) iX6_log_5 rfl rfl rfl rfl ?_
  cases hp : x_rg p 0 ((P : Int) - 1)
  · refine am_xS2 iX6_log_6 cX6_log_39 mX6_needIndex rfl rfl rfl (y_needIndex_x (m := cm m G X E) hrm p (by omega) hp) (am_out rfl ?_)
    exact y_thr hI (by omega) hT (t := 1) (by decide) 8 _
  · refine am_cS2v iX6_log_6 cX6_log_39 mX6_needIndex rfl rfl rfl (y_needIndex p (by omega) hp) ?_
    obtain ⟨j, hj, hjt, rfl⟩ := x_rg_ex P hp (by omega)
    rw [hjt]
    refine am_iload_n iX6_log_9 rfl rfl ?_
    refine am_iconst (i := 2) (v := 2) rfl iX6_log_10 ?_
    cases hw : x_rg w 0 1
    · refine am_xS2 iX6_log_11 cX6_log_39 mX6_needIndex rfl rfl rfl (y_needIndex_x (m := cm m G X E) (B := 2) hrm w (by decide) hw) (am_out rfl ?_)
      exact y_thr hI (by omega) hT (t := 1) (by decide) 8 _
    · refine am_cS2v iX6_log_11 cX6_log_39 mX6_needIndex rfl rfl rfl (y_needIndex (B := 2) w (by decide) hw) ?_
      rw [if_pos (show (true && true) = true from rfl)]
      refine am_iload_n iX6_log_14 rfl rfl ?_
      refine am_if_ne iX6_log_15 (fun c1 => ?_) (fun c1 => ?_)
      · rw [if_neg c1]
        refine am_aload_n iX6_log_30 rfl rfl ?_
        refine y_getR hL (by assumption) iX6_log_31 fX6_log_11 rfl rfl rfl (fun _ => ?_)
        refine am_iload_n iX6_log_34 rfl rfl ?_
        refine y_logs (j) hL (by assumption) iX6_log_35 (by first | rfl | simp only [nI_add, pk_mul, nI_1, nL0, nL1, nL2, nL3, nL4, nL10, nL30, nL300, nL401]) (hj) (fun _ => ?_)
        refine y_getI (o := 2) hL (by assumption) iX6_log_36 fX6_log_203 rfl rfl rfl rfl ?_
        rw [← cm_th (X := X) (t := 0)]
        exact am_iret iX6_log_39 rfl ⟨y_ok1 (hI.th 0) (by omega) hT, Or.inl ⟨rfl, rfl⟩⟩
      · rw [if_pos c1]
        refine am_aload_n iX6_log_18 rfl rfl ?_
        refine y_getR hL (by assumption) iX6_log_19 fX6_log_11 rfl rfl rfl (fun _ => ?_)
        refine am_iload_n iX6_log_22 rfl rfl ?_
        refine y_logs (j) hL (by assumption) iX6_log_23 (by first | rfl | simp only [nI_add, pk_mul, nI_1, nL0, nL1, nL2, nL3, nL4, nL10, nL30, nL300, nL401]) (hj) (fun _ => ?_)
        refine y_getI (o := 1) hL (by assumption) iX6_log_24 fX6_log_62 rfl rfl rfl rfl ?_
        refine am_goto iX6_log_27 ?_
        rw [← cm_th (X := X) (t := 0)]
        exact am_iret iX6_log_39 rfl ⟨y_ok1 (hI.th 0) (by omega) hT, Or.inl ⟨rfl, rfl⟩⟩
theorem y_session (hI : INV m G X E P R N T) (hrm : c_rm m) (hT : T + 100 ≤ 1000000) (s w p : Int32) : am_W sc 41 0 [.ref (ca G 1 0), .int s, .int w, .int p, .retAddr 1] [] (cm m G X E) (y_Q ((x_session X P s w p).2.1 0 2) (kdf ((x_session X P s w p).2.1 0 2)) (.int (x_session X P s w p).1) (y_POST m G (x_session X P s w p).2 P R (T + 100))) := by
  have hL := hI.1
  have h1 := hL.2.1
  have hP := hL.2.2.2
  unfold x_session
  refine am_iload_n iX6_session_0 rfl rfl ?_
  refine am_bipush (i := 8) (v := 8) rfl iX6_session_1 ?_
  cases hs : x_rg s 0 7
  · refine am_xS2 iX6_session_3 cX6_session_39 mX6_needIndex rfl rfl rfl (y_needIndex_x (m := cm m G X E) (B := 8) hrm s (by decide) hs) (am_out rfl ?_)
    exact y_thr hI (by omega) hT (t := 1) (by decide) 8 _
  · refine am_cS2v iX6_session_3 cX6_session_39 mX6_needIndex rfl rfl rfl (y_needIndex (B := 8) s (by decide) hs) ?_
    obtain ⟨n, hn, hnt, rfl⟩ := x_rg_ex 8 hs (by omega)
    rw [hnt]
    refine am_iload_n iX6_session_6 rfl rfl ?_
    refine am_iconst (i := 2) (v := 2) rfl iX6_session_7 ?_
    cases hw : x_rg w 0 1
    · refine am_xS2 iX6_session_8 cX6_session_39 mX6_needIndex rfl rfl rfl (y_needIndex_x (m := cm m G X E) (B := 2) hrm w (by decide) hw) (am_out rfl ?_)
      exact y_thr hI (by omega) hT (t := 1) (by decide) 8 _
    · refine am_cS2v iX6_session_8 cX6_session_39 mX6_needIndex rfl rfl rfl (y_needIndex (B := 2) w (by decide) hw) ?_
      refine am_iload_n iX6_session_11 rfl rfl ?_
      refine am_aload_n iX6_session_12 rfl rfl ?_
      refine y_getR hL (by assumption) iX6_session_13 fX6_session_11 rfl rfl rfl (fun _ => ?_)
      refine y_alen (len := P) hL (by assumption) iX6_session_16 rfl rfl rfl rfl ?_
      cases hp : x_rg p 0 ((P : Int) - 1)
      · refine am_xS2 iX6_session_17 cX6_session_39 mX6_needIndex rfl rfl rfl (y_needIndex_x (m := cm m G X E) hrm p (by omega) hp) (am_out rfl ?_)
        exact y_thr hI (by omega) hT (t := 1) (by decide) 8 _
      · refine am_cS2v iX6_session_17 cX6_session_39 mX6_needIndex rfl rfl rfl (y_needIndex p (by omega) hp) ?_
        obtain ⟨j, hj, hjt, rfl⟩ := x_rg_ex P hp (by omega)
        rw [hjt, if_pos (show (true && (true && true)) = true from rfl)]
        refine am_aload_n iX6_session_20 rfl rfl ?_
        refine y_getR hL (by assumption) iX6_session_21 fX6_session_25 rfl rfl rfl (fun _ => ?_)
        refine am_iload_n iX6_session_24 rfl rfl ?_
        refine y_sess (n) hL (by assumption) iX6_session_25 (by first | rfl | simp only [nI_add, pk_mul, nI_1, nL0, nL1, nL2, nL3, nL4, nL10, nL30, nL300, nL401]) (hn) (fun _ => ?_)
        refine am_astore_4 iX6_session_26 rfl rfl ?_
        refine am_iload_n iX6_session_28 rfl rfl ?_
        refine am_if_ne iX6_session_29 (fun c1 => ?_) (fun c1 => ?_)
        · rw [if_neg c1]
          refine am_aload iX6_session_42 rfl ?_
          refine y_getR hL (by assumption) iX6_session_44 fX6_session_227 rfl rfl rfl (fun _ => ?_)
          refine am_iload_n iX6_session_47 rfl rfl ?_
          refine y_iald (j) hL (by assumption) iX6_session_48 (by first | rfl | simp only [nI_add, pk_mul, nI_1, nL0, nL1, nL2, nL3, nL4, nL10, nL30, nL300, nL401]) ((show j < 3 by omega)) rfl rfl rfl rfl ?_
          rw [← cm_th (X := X) (t := 0)]
          exact am_iret iX6_session_49 rfl ⟨y_ok1 (hI.th 0) (by omega) hT, Or.inl ⟨rfl, rfl⟩⟩
        · rw [if_pos c1]
          refine am_aload iX6_session_32 rfl ?_
          refine y_getR hL (by assumption) iX6_session_34 fX6_session_85 rfl rfl rfl (fun _ => ?_)
          refine am_iload_n iX6_session_37 rfl rfl ?_
          refine y_iald (j) hL (by assumption) iX6_session_38 (by first | rfl | simp only [nI_add, pk_mul, nI_1, nL0, nL1, nL2, nL3, nL4, nL10, nL30, nL300, nL401]) ((show j < 3 by omega)) rfl rfl rfl rfl ?_
          refine am_goto iX6_session_39 ?_
          rw [← cm_th (X := X) (t := 0)]
          exact am_iret iX6_session_49 rfl ⟨y_ok1 (hI.th 0) (by omega) hT, Or.inl ⟨rfl, rfl⟩⟩
theorem y_told (hI : INV m G X E P R N T) (hrm : c_rm m) (hT : T + 100 ≤ 1000000) (t : Int64) (p : Int32) : am_W sc 42 0 [.ref (ca G 1 0), .long t, .retAddr 1, .int p] [] (cm m G X E) (y_Q ((x_told X P t p).2.1 0 2) (kdf ((x_told X P t p).2.1 0 2)) (.int (x_told X P t p).1) (y_POST m G (x_told X P t p).2 P R (T + 100))) := by
  have hL := hI.1
  have h1 := hL.2.1
  have hP := hL.2.2.2
  unfold x_told
  refine am_iload_n iX6_told_0 rfl rfl ?_
  refine am_aload_n iX6_told_1 rfl rfl ?_
  refine y_getR hL (by assumption) iX6_told_2 fX6_told_11 rfl rfl rfl (fun _ => ?_)
  refine y_alen (len := P) hL (by assumption) iX6_told_5 rfl rfl rfl rfl ?_
  cases hp : x_rg p 0 ((P : Int) - 1)
  · refine am_xS2 iX6_told_6 cX6_told_39 mX6_needIndex rfl rfl rfl (y_needIndex_x (m := cm m G X E) hrm p (by omega) hp) (am_out rfl ?_)
    exact y_thr hI (by omega) hT (t := 1) (by decide) 8 _
  · refine am_cS2v iX6_told_6 cX6_told_39 mX6_needIndex rfl rfl rfl (y_needIndex p (by omega) hp) ?_
    obtain ⟨j, hj, hjt, rfl⟩ := x_rg_ex P hp (by omega)
    refine am_aload_n iX6_told_9 rfl rfl ?_
    refine am_lload_n iX6_told_10 rfl rfl ?_
    cases ht : x_isTok X P t
    · refine am_xV1 iX6_told_11 cX6_told_142 mX6_needToken (y_K hL (by assumption) rfl rfl) rfl rfl rfl (y_needToken_x hL hrm t ht) (am_out rfl ?_)
      exact y_thr hI (by omega) hT (t := 2) (by decide) 9 _
    · refine am_cV1v iX6_told_11 cX6_told_142 mX6_needToken (y_K hL (by assumption) rfl rfl) rfl rfl rfl (y_needToken hL hrm t ht) ?_
      rw [if_neg (by decide), if_neg (by decide)]
      refine am_lload_n iX6_told_14 rfl rfl ?_
      refine am_iload_n iX6_told_15 rfl rfl ?_
      refine am_cS2r iX6_told_16 cX6_told_230 mX6_positionIn rfl rfl rfl (y_positionIn t (show j < 3 by omega)) ?_
      rw [← cm_th (X := X) (t := 0)]
      exact am_iret iX6_told_19 rfl ⟨y_ok1 (hI.th 0) (by omega) hT, Or.inl ⟨rfl, rfl⟩⟩
theorem y_count (hI : INV m G X E P R N T) (hrm : c_rm m) (hT : T + 100 ≤ 1000000) (w : Int32) : am_W sc 43 0 [.ref (ca G 1 0), .int w] [] (cm m G X E) (y_Q ((x_cnt X N w).2.1 0 2) (kdf ((x_cnt X N w).2.1 0 2)) (.int (x_cnt X N w).1) (y_POST m G (x_cnt X N w).2 P R (T + 100))) := by
  have hL := hI.1
  have h1 := hL.2.1
  obtain ⟨-, -, b0, b1, b2, -⟩ := hI.2.2.2.1
  unfold x_cnt
  refine am_iload_n iX6_count_0 rfl rfl ?_
  cases hw : x_rg w 0 4
  · have hw' := of_decide_eq_false hw
    refine am_tOut (q := 0) 61 iX6_count_1 (by omega) (by decide) ?_
    refine am_throw tX6_count_61 rfl iX6_count_61 iX6_count_64 iX6_count_65 iX6_count_67 iX6_count_70 (Nat.le_of_ble_eq_true rfl) (Nat.le_of_ble_eq_true rfl) ?_ ?_ ?_
    · have := hrm.1; show am_n m + 1 ≤ _; omega
    · have := hrm.2; show am_u m + 6 ≤ _; omega
    · exact y_thr hI (by omega) hT (t := 1) (by decide) 8 _
  · obtain ⟨j, hj, hjt, rfl⟩ := x_rg_ex 5 hw (by omega)
    rw [if_pos rfl]
    rcases (show j = 0 ∨ j = 1 ∨ j = 2 ∨ j = 3 ∨ j = 4 by omega) with rfl | rfl | rfl | rfl | rfl
    · refine am_tIn (q := 0) (off := 35) 36 iX6_count_1 (by decide) (by decide) (by decide) (by decide) ?_
      refine am_aload_n iX6_count_36 rfl rfl ?_
      refine y_getI (o := 0) hL (by assumption) iX6_count_37 fX6_count_146 rfl rfl rfl rfl ?_
      rw [← cm_th (X := X) (t := 0)]
      exact am_iret iX6_count_40 rfl ⟨y_ok1 (hI.th 0) (by omega) hT, Or.inl ⟨rfl, rfl⟩⟩
    · refine am_tIn (q := 0) (off := 40) 41 iX6_count_1 (by decide) (by decide) (by decide) (by decide) ?_
      refine am_aload_n iX6_count_41 rfl rfl ?_
      refine y_getE (o := 0) hL (by assumption) iX6_count_42 fX6_count_158 rfl rfl rfl ?_
      rw [← cm_th (X := X) (t := 0), b0]
      exact am_iret iX6_count_45 rfl ⟨y_ok1 (hI.th 0) (by omega) hT, Or.inl ⟨rfl, rfl⟩⟩
    · refine am_tIn (q := 0) (off := 45) 46 iX6_count_1 (by decide) (by decide) (by decide) (by decide) ?_
      refine am_aload_n iX6_count_46 rfl rfl ?_
      refine y_getE (o := 0) hL (by assumption) iX6_count_47 fX6_count_234 rfl rfl rfl ?_
      rw [← cm_th (X := X) (t := 0), b1]
      exact am_iret iX6_count_50 rfl ⟨y_ok1 (hI.th 0) (by omega) hT, Or.inl ⟨rfl, rfl⟩⟩
    · refine am_tIn (q := 0) (off := 50) 51 iX6_count_1 (by decide) (by decide) (by decide) (by decide) ?_
      refine am_aload_n iX6_count_51 rfl rfl ?_
      refine y_getE (o := 0) hL (by assumption) iX6_count_52 fX6_count_237 rfl rfl rfl ?_
      rw [← cm_th (X := X) (t := 0), b2]
      exact am_iret iX6_count_55 rfl ⟨y_ok1 (hI.th 0) (by omega) hT, Or.inl ⟨rfl, rfl⟩⟩
    · refine am_tIn (q := 0) (off := 55) 56 iX6_count_1 (by decide) (by decide) (by decide) (by decide) ?_
      refine am_aload_n iX6_count_56 rfl rfl ?_
      refine y_getI (o := 0) hL (by assumption) iX6_count_57 fX6_count_107 rfl rfl rfl rfl ?_
      rw [← cm_th (X := X) (t := 0)]
      exact am_iret iX6_count_60 rfl ⟨y_ok1 (hI.th 0) (by omega) hT, Or.inl ⟨rfl, rfl⟩⟩
theorem y_read (hI : INV m G X E P R N T) (hrm : c_rm m) (hT : T + 100 ≤ 1000000) (k w : Int32) : am_W sc 35 0 [.ref (ca G 1 0), .int k, .int w, .retAddr 1] [] (cm m G X E) (y_Q ((x_read X N k w).2.1 0 2) (kdf ((x_read X N k w).2.1 0 2)) (.long (x_read X N k w).1) (y_POST m G (x_read X N k w).2 P R (T + 100))) := by
  have hL := hI.1
  have h1 := hL.2.1
  have hN := hI.2.2.1.1.2.1
  have hN2 := hN.2.1
  unfold x_read
  refine am_iload_n iX6_read_0 rfl rfl ?_
  refine am_aload_n iX6_read_1 rfl rfl ?_
  refine y_getI (o := 0) hL (by assumption) iX6_read_2 fX6_read_146 rfl rfl rfl rfl ?_
  rw [hN.1]
  cases hk : x_rg k 0 ((N : Int) - 1)
  · refine am_xS2 iX6_read_5 cX6_read_39 mX6_needIndex rfl rfl rfl (y_needIndex_x (m := cm m G X E) hrm k (by omega) hk) (am_out rfl ?_)
    exact y_thr hI (by omega) hT (t := 1) (by decide) 8 _
  · refine am_cS2v iX6_read_5 cX6_read_39 mX6_needIndex rfl rfl rfl (y_needIndex k (by omega) hk) ?_
    obtain ⟨n, hn, hnt, rfl⟩ := x_rg_ex N hk (by omega)
    rw [hnt]
    obtain ⟨r1, r2⟩ := hI.2.1.1 n hn
    refine am_aload_n iX6_read_8 rfl rfl ?_
    refine y_getR hL (by assumption) iX6_read_9 fX6_read_32 rfl rfl rfl (fun _ => ?_)
    refine am_iload_n iX6_read_12 rfl rfl ?_
    have h23 : cx G 23 0 := by assumption
    refine am_aald (ci := 2) iX6_read_13 (y_K hL h23 rfl rfl) (by decide) (by rw [y_L hL h23 rfl]; exact vp_in_nI (N := 500) (by omega) (by decide)) ?_
    rw [nI_clamp (by omega)]
    show am_W _ _ _ _ (.ref (am_R m (ca G 23 0) n) :: _) _ _
    rw [r1]
    refine am_astore_n_3 iX6_read_14 rfl rfl ?_
    refine am_iload_n iX6_read_15 rfl rfl ?_
    cases hw : x_rg w 0 5
    · have hw' := of_decide_eq_false hw
      refine am_tOut (q := 0) 90 iX6_read_16 (by omega) (by decide) ?_
      refine am_throw tX6_read_90 rfl iX6_read_90 iX6_read_93 iX6_read_94 iX6_read_96 iX6_read_99 (Nat.le_of_ble_eq_true rfl) (Nat.le_of_ble_eq_true rfl) ?_ ?_ ?_
      · have := hrm.1; show am_n m + 1 ≤ _; omega
      · have := hrm.2; show am_u m + 6 ≤ _; omega
      · exact y_thr hI (by omega) hT (t := 1) (by decide) 8 _
    · obtain ⟨j, hj, hjt, rfl⟩ := x_rg_ex 6 hw (by omega)
      rw [if_pos (show (true && true) = true from rfl)]
      rcases (show j = 0 ∨ j = 1 ∨ j = 2 ∨ j = 3 ∨ j = 4 ∨ j = 5 by omega) with rfl | rfl | rfl | rfl | rfl | rfl
      · refine am_tIn (q := 0) (off := 40) 56 iX6_read_16 (by decide) (by decide) (by decide) (by decide) ?_
        refine am_aload_n iX6_read_56 rfl rfl ?_
        refine y_getI (o := 23) hL (by assumption) iX6_read_57 fX6_read_171 rfl rfl rfl rfl ?_
        refine am_i2l iX6_read_60 ?_
        rw [← cm_th (X := X) (t := 0)]
        exact am_lret iX6_read_61 rfl ⟨y_ok1 (hI.th 0) (by omega) hT, Or.inl ⟨rfl, rfl⟩⟩
      · refine am_tIn (q := 0) (off := 46) 62 iX6_read_16 (by decide) (by decide) (by decide) (by decide) ?_
        refine am_aload_n iX6_read_62 rfl rfl ?_
        refine y_getI (o := 31) hL (by assumption) iX6_read_63 fX6_read_174 rfl rfl rfl rfl ?_
        refine am_i2l iX6_read_66 ?_
        rw [← cm_th (X := X) (t := 0)]
        exact am_lret iX6_read_67 rfl ⟨y_ok1 (hI.th 0) (by omega) hT, Or.inl ⟨rfl, rfl⟩⟩
      · refine am_tIn (q := 0) (off := 52) 68 iX6_read_16 (by decide) (by decide) (by decide) (by decide) ?_
        refine am_aload_n iX6_read_68 rfl rfl ?_
        refine y_getJ (o := 32) hL (by assumption) iX6_read_69 fX6_read_177 rfl rfl rfl rfl ?_
        rw [← cm_th (X := X) (t := 0)]
        exact am_lret iX6_read_72 rfl ⟨y_ok1 (hI.th 0) (by omega) hT, Or.inl ⟨rfl, rfl⟩⟩
      · refine am_tIn (q := 0) (off := 57) 73 iX6_read_16 (by decide) (by decide) (by decide) (by decide) ?_
        refine am_aload_n iX6_read_73 rfl rfl ?_
        refine y_getJ (o := 33) hL (by assumption) iX6_read_74 fX6_read_180 rfl rfl rfl rfl ?_
        rw [← cm_th (X := X) (t := 0)]
        exact am_lret iX6_read_77 rfl ⟨y_ok1 (hI.th 0) (by omega) hT, Or.inl ⟨rfl, rfl⟩⟩
      · refine am_tIn (q := 0) (off := 62) 78 iX6_read_16 (by decide) (by decide) (by decide) (by decide) ?_
        refine am_aload_n iX6_read_78 rfl rfl ?_
        refine y_getI (o := 34) hL (by assumption) iX6_read_79 fX6_read_183 rfl rfl rfl rfl ?_
        refine am_i2l iX6_read_82 ?_
        rw [← cm_th (X := X) (t := 0)]
        exact am_lret iX6_read_83 rfl ⟨y_ok1 (hI.th 0) (by omega) hT, Or.inl ⟨rfl, rfl⟩⟩
      · refine am_tIn (q := 0) (off := 68) 84 iX6_read_16 (by decide) (by decide) (by decide) (by decide) ?_
        refine am_aload_n iX6_read_84 rfl rfl ?_
        refine y_getI (o := 24) hL (by assumption) iX6_read_85 fX6_read_186 rfl rfl rfl rfl ?_
        refine am_i2l iX6_read_88 ?_
        rw [← cm_th (X := X) (t := 0)]
        exact am_lret iX6_read_89 rfl ⟨y_ok1 (hI.th 0) (by omega) hT, Or.inl ⟨rfl, rfl⟩⟩
end
