/-! the class: mode, home, speed, step, up, ticks -/
section
variable {sc : Nat × (Nat → Int32)} {m : am_Mem} {G : cg_G} {X E : ms_X} {P R N T : Nat}
def kdf (t : Int32) : Nat := 7 + nt t
theorem y_look1 (hI : INV m G X E P R N T) {r : Nat} (hr : r < R) : am_W sc 60 0 [.ref (ca G 1 0), .int (nI r), .retAddr 1] [] (cm m G X E) (am_RE none (y_PS m G (x_lookN X P r N) P R N T)) := by
  obtain ⟨hL0, hM, hA, hB, hw⟩ := hI
  have h := y_lookAtWaiting (sc := sc) hL0 (fun k hk => (hM.1 k hk).2) (am_R m (ca G 24 0)) hA hB hw hr
  rw [c_sR_id] at h
  exact h.mono (fun o m' q => ⟨q.1, by obtain ⟨-, g', q1, q2⟩ := q; exact ⟨g', _, q1, hA.look r, hB.look hA hr, q2⟩⟩)
theorem y_step1 (hI : INV m G X E P R N T) {r p : Nat} (hr : r < R) (hp : p < P) : am_W sc 55 0 [.ref (ca G 1 0), .int (nI r), .int (nI p), .retAddr 1, .retAddr 1] [] (cm m G X E) (am_RE (some (.int (x_adv X P N r p).1)) (y_PS m G (x_adv X P N r p).2 P R N T)) := by
  obtain ⟨hL0, hM, hA, hB, hw⟩ := hI
  have h := y_takeStep (sc := sc) hL0 hM (am_R m (ca G 24 0)) hA hB hw hr hp
  rw [c_sR_id] at h
  exact h
theorem IM.look (h : IM m G X P N) (r n : Nat) : IM m G (x_lookN X P r n) P N := h.cg (fun _ => x_look_o X P r (by decide) (by decide) (by decide) (by decide) n) (fun _ => x_look_o X P r (by decide) (by decide) (by decide) (by decide) n)
set_option maxHeartbeats 1000000 in
theorem y_mode (hI : INV m G X E P R N T) (hrm : c_rm m) (hT : T + 100 ≤ 1000000) (s v : Int32) : am_W sc 24 0 [.ref (ca G 1 0), .int s, .int v, .retAddr 1, .retAddr 1, .retAddr 1] [] (cm m G X E) (y_Q ((x_mode X P R N s v).2.1 0 2) (kdf ((x_mode X P R N s v).2.1 0 2)) (.int (x_mode X P R N s v).1) (y_POST m G (x_mode X P R N s v).2 P R (T + 100))) := by
  have hL := hI.1
  have h1 := hL.2.1
  have hP := hL.2.2.2
  unfold x_mode
  refine am_iload_n iX6_mode_0 rfl rfl ?_
  refine am_bipush (i := 8) (v := 8) rfl iX6_mode_1 ?_
  cases hs : x_rg s 0 7
  · refine am_xS2 iX6_mode_3 cX6_mode_39 mX6_needIndex rfl rfl rfl (y_needIndex_x (m := cm m G X E) (B := 8) hrm s (by decide) hs) (am_out rfl ?_)
    exact y_thr hI (by omega) hT (t := 1) (by decide) 8 _
  · refine am_cS2v iX6_mode_3 cX6_mode_39 mX6_needIndex rfl rfl rfl (y_needIndex (B := 8) s (by decide) hs) ?_
    obtain ⟨n, hn, hnt, rfl⟩ := x_rg_ex 8 hs (by omega)
    rw [hnt]
    refine am_iload_n iX6_mode_6 rfl rfl ?_
    refine am_iconst (i := 0) (v := 0) rfl iX6_mode_7 ?_
    refine am_bipush (i := 15) (v := 15) rfl iX6_mode_8 ?_
    cases hv : x_rg v 0 15
    · refine am_xS3 iX6_mode_10 cX6_mode_43 mX6_needNumber rfl rfl rfl (y_needNumber_x (m := cm m G X E) hrm v 0 15 hv) (am_out rfl ?_)
      exact y_thr hI (by omega) hT (t := 2) (by decide) 9 _
    · refine am_cS3v iX6_mode_10 cX6_mode_43 mX6_needNumber rfl rfl rfl (y_needNumber v 0 15 hv) ?_
      rw [if_neg (by decide), if_neg (by decide)]
      refine am_aload_n iX6_mode_13 rfl rfl ?_
      refine y_getR hL (by assumption) iX6_mode_14 fX6_mode_25 rfl rfl rfl (fun _ => ?_)
      refine am_iload_n iX6_mode_17 rfl rfl ?_
      refine y_sess (n) hL (by assumption) iX6_mode_18 (by first | rfl | simp only [nI_add, pk_mul, nI_1, nL0, nL1, nL2, nL3, nL4, nL10, nL30, nL300, nL401]) (hn) (fun _ => ?_)
      refine am_astore_n_3 iX6_mode_19 rfl rfl ?_
      refine am_aload_n iX6_mode_20 rfl rfl ?_
      refine y_getI (o := 19) hL (by assumption) iX6_mode_21 fX6_mode_47 rfl rfl rfl rfl ?_
      refine am_istore_4 iX6_mode_24 rfl rfl ?_
      refine am_aload_n iX6_mode_26 rfl rfl ?_
      refine am_iload_n iX6_mode_27 rfl rfl ?_
      refine y_putI (o := 19) hL (by assumption) iX6_mode_28 fX6_mode_47 rfl rfl rfl rfl rfl rfl ?_
      refine am_iload iX6_mode_31 rfl ?_
      refine am_iload_n iX6_mode_33 rfl rfl ?_
      have e0 : cm m G (xU X 19 n v) E = cm m G (xU (x_th X 0) 19 n v) E := by
        have : xU (x_th X 0) 19 n v = x_th (xU X 19 n v) 0 := by
          refine Prod.ext ?_ rfl
          funext o i
          show (if o = 19 ∧ i = n then v else if o = 0 ∧ i = 2 then 0 else X.1 o i) = (if o = 0 ∧ i = 2 then 0 else if o = 19 ∧ i = n then v else X.1 o i)
          repeat' split
          all_goals first | rfl | omega
        rw [this, cm_th]
      rw [e0]
      have hA1 : IA (xU (x_th X 0) 19 n v) E P R N T := hI.2.2.1.th 0
      have hB1 : IB (xU (x_th X 0) 19 n v) E P N := hI.2.2.2.1.cg (fun _ => rfl) (fun _ => rfl) (fun _ => rfl)
      have hM1 : IM m G (xU (x_th X 0) 19 n v) P N := hI.2.1
      have hw1 : y_WT G (xU (x_th X 0) 19 n v) N (am_R m (ca G 24 0)) := hI.2.2.2.2.cg (fun _ => rfl)
      have ht1 : (xU (x_th X 0) 19 n v).1 0 2 = 0 := rfl
      generalize xU (x_th X 0) 19 n v = Z at hA1 hB1 hM1 hw1 ht1 ⊢
      refine am_icmp_eq iX6_mode_34 (fun c1 => ?_) (fun c1 => ?_)
      · rw [if_pos c1]
        refine am_iload iX6_mode_62 rfl ?_
        exact am_iret iX6_mode_64 rfl ⟨y_ok1 ⟨hI.1, hM1, hA1, hB1, hw1⟩ (by omega) hT, Or.inl ⟨ht1, rfl⟩⟩
      · rw [if_neg c1]
        refine am_iconst (i := 0) (v := 0) rfl iX6_mode_37 ?_
        refine am_istore_5 iX6_mode_38 rfl rfl ?_
        have hZ : ∀ r, (x_lkR Z P N r).1 0 2 = 0 := by
          intro r
          induction r with
          | zero => exact ht1
          | succ r ih => exact (x_look_o _ P r (by decide) (by decide) (by decide) (by decide) N).trans ih
        have key : ∀ d r : Nat, r + d = R → ∀ (g : Nat → Nat) (E : ms_X), IM m G (x_lkR Z P N r) P N → IA (x_lkR Z P N r) E P R N T → IB (x_lkR Z P N r) E P N → y_WT G (x_lkR Z P N r) N g → am_W sc 24 40 [.ref (ca G 1 0), .int (nI n), .int v, .ref (ca G 14 n), .int (X.1 19 n), .int (nI r)] [] (cm (c_sR m (ca G 24 0) g) G (x_lkR Z P N r) E) (y_Q ((x_lkR Z P N R).1 0 2) (kdf ((x_lkR Z P N R).1 0 2)) (.int (X.1 19 n)) (y_POST m G (x_lkR Z P N R) P R (T + 100))) := by
          intro d
          induction d with
          | zero =>
            intro r hr g E hM hA hB hw
            have e : R = r := by omega
            subst e
            have hL0 := hL
            have hL := hL0.sR g
            refine am_iload iX6_mode_40 rfl ?_
            refine am_aload_n iX6_mode_42 rfl rfl ?_
            refine y_getR hL (by assumption) iX6_mode_43 fX6_mode_18 rfl rfl rfl (fun _ => ?_)
            refine y_alen (len := R) hL (by assumption) iX6_mode_46 rfl rfl rfl rfl ?_
            refine am_icmp_ge iX6_mode_47 (fun _ => ?_) (fun hc => absurd (nI_le (Nat.le_refl _) (by omega)) hc)
            refine am_iload iX6_mode_62 rfl ?_
            exact am_iret iX6_mode_64 rfl ⟨y_okS hL0 hM (T := T) (by omega) hT ⟨g, E, hw, hA, hB, rfl⟩, Or.inl ⟨hZ R, rfl⟩⟩
          | succ d ih =>
            intro r hr g E hM hA hB hw
            have hL0 := hL
            have hL := hL0.sR g
            refine am_iload iX6_mode_40 rfl ?_
            refine am_aload_n iX6_mode_42 rfl rfl ?_
            refine y_getR hL (by assumption) iX6_mode_43 fX6_mode_18 rfl rfl rfl (fun _ => ?_)
            refine y_alen (len := R) hL (by assumption) iX6_mode_46 rfl rfl rfl rfl ?_
            refine am_icmp_ge iX6_mode_47 (fun hc => absurd hc (fun q => absurd ((nI_leI (by omega) (by omega)).mp q) (by omega))) (fun _ => ?_)
            refine am_aload_n iX6_mode_50 rfl rfl ?_
            refine am_iload iX6_mode_51 rfl ?_
            refine am_eV1v iX6_mode_53 cX6_mode_51 mX6_lookAtWaiting (y_K hL (by assumption) rfl rfl) rfl rfl rfl (y_lookAtWaiting hL0 (fun k hk => (hM.1 k hk).2) g hA hB hw (show r < R by omega)) ?_
            intro m2 hm2
            obtain ⟨g', q1, q2⟩ := hm2
            subst q2
            have hL := hL0.sR g'
            refine am_iinc_5 1 iX6_mode_56 rfl rfl rfl ?_
            refine am_goto iX6_mode_59 ?_
            rw [nI_1]
            exact ih (r + 1) (by omega) g' _ (hM.look r N) (hA.look r) (hB.look hA (show r < R by omega)) q1
        have := key R 0 (by omega) (am_R m (ca G 24 0)) E hM1 hA1 hB1 hw1
        rw [c_sR_id] at this
        exact this
theorem x_th_U (X : ms_X) {o i : Nat} (v t : Int32) (h : o ≠ 0) : xU (x_th X t) o i v = x_th (xU X o i v) t := by
  refine Prod.ext ?_ rfl
  funext a j
  show (if a = o ∧ j = i then v else if a = 0 ∧ j = 2 then t else X.1 a j) = (if a = 0 ∧ j = 2 then t else if a = o ∧ j = i then v else X.1 a j)
  repeat' split
  all_goals first | rfl | omega
theorem cm_thU {o i : Nat} {v t : Int32} (h : o ≠ 0) : cm m G (xU (x_th X t) o i v) E = cm m G (xU X o i v) E := by rw [x_th_U X v t h, cm_th]
theorem IA.homes (h : IA X E P R N T) (s : Nat) {v : Int32} (hv : x_ix v R) : IA (xU X 20 s v) E P R N T := by
  refine ⟨⟨h.1.1, h.1.2.1, h.1.2.2.1, h.1.2.2.2.1, h.1.2.2.2.2.1, h.1.2.2.2.2.2.1, fun s' hs' => ?_⟩, h.2⟩
  show x_ix (if 20 = 20 ∧ s' = s then v else X.1 20 s') R
  split
  · exact hv
  · exact h.1.2.2.2.2.2.2 s' hs'
theorem IA.speeds (h : IA X E P R N T) (r : Nat) {v : Int32} (hv : x_ix v 11) : IA (xU X 16 r v) E P R N T := by
  refine ⟨⟨h.1.1, h.1.2.1, h.1.2.2.1, h.1.2.2.2.1, h.1.2.2.2.2.1, fun r' hr' => ?_, h.1.2.2.2.2.2.2⟩, h.2⟩
  obtain ⟨b1, b2, b3⟩ := h.1.2.2.2.2.2.1 r' hr'
  refine ⟨b1, ?_, b3⟩
  show x_ix (if 16 = 16 ∧ r' = r then v else X.1 16 r') 11
  split
  · exact hv
  · exact b2
theorem IA.ups (h : IA X E P R N T) (r : Nat) {v : Int32} (hv : v = 0 ∨ v = 1) : IA (xU X 18 r v) E P R N T := by
  refine ⟨⟨h.1.1, h.1.2.1, h.1.2.2.1, h.1.2.2.2.1, h.1.2.2.2.2.1, fun r' hr' => ?_, h.1.2.2.2.2.2.2⟩, h.2⟩
  obtain ⟨b1, b2, b3⟩ := h.1.2.2.2.2.2.1 r' hr'
  refine ⟨b1, b2, ?_⟩
  show (if 18 = 18 ∧ r' = r then v else X.1 18 r') = 0 ∨ (if 18 = 18 ∧ r' = r then v else X.1 18 r') = 1
  split
  · exact hv
  · exact b3
theorem y_home (hI : INV m G X E P R N T) (hrm : c_rm m) (hT : T + 100 ≤ 1000000) (s r : Int32) : am_W sc 25 0 [.ref (ca G 1 0), .int s, .int r, .retAddr 1] [] (cm m G X E) (y_Q ((x_home X R s r).2.1 0 2) (kdf ((x_home X R s r).2.1 0 2)) (.int (x_home X R s r).1) (y_POST m G (x_home X R s r).2 P R (T + 100))) := by
  have hL := hI.1
  have h1 := hL.2.1
  have hP := hL.2.2.2
  unfold x_home
  refine am_iload_n iX6_home_0 rfl rfl ?_
  refine am_bipush (i := 8) (v := 8) rfl iX6_home_1 ?_
  cases hs : x_rg s 0 7
  · refine am_xS2 iX6_home_3 cX6_home_39 mX6_needIndex rfl rfl rfl (y_needIndex_x (m := cm m G X E) (B := 8) hrm s (by decide) hs) (am_out rfl ?_)
    exact y_thr hI (by omega) hT (t := 1) (by decide) 8 _
  · refine am_cS2v iX6_home_3 cX6_home_39 mX6_needIndex rfl rfl rfl (y_needIndex (B := 8) s (by decide) hs) ?_
    obtain ⟨n, hn, hnt, rfl⟩ := x_rg_ex 8 hs (by omega)
    rw [hnt]
    refine am_iload_n iX6_home_6 rfl rfl ?_
    refine am_aload_n iX6_home_7 rfl rfl ?_
    refine y_getR hL (by assumption) iX6_home_8 fX6_home_18 rfl rfl rfl (fun _ => ?_)
    refine y_alen (len := R) hL (by assumption) iX6_home_11 rfl rfl rfl rfl ?_
    cases hr : x_rg r 0 ((R : Int) - 1)
    · refine am_xS2 iX6_home_12 cX6_home_39 mX6_needIndex rfl rfl rfl (y_needIndex_x (m := cm m G X E) hrm r (by omega) hr) (am_out rfl ?_)
      exact y_thr hI (by omega) hT (t := 1) (by decide) 8 _
    · refine am_cS2v iX6_home_12 cX6_home_39 mX6_needIndex rfl rfl rfl (y_needIndex r (by omega) hr) ?_
      rw [if_pos (show (true && true) = true from rfl)]
      have hx := x_rg_ix (n := R) hr (by omega)
      refine am_aload_n iX6_home_15 rfl rfl ?_
      refine y_getR hL (by assumption) iX6_home_16 fX6_home_25 rfl rfl rfl (fun _ => ?_)
      refine am_iload_n iX6_home_19 rfl rfl ?_
      refine y_sess (n) hL (by assumption) iX6_home_20 (by first | rfl | simp only [nI_add, pk_mul, nI_1, nL0, nL1, nL2, nL3, nL4, nL10, nL30, nL300, nL401]) (hn) (fun _ => ?_)
      refine y_getI (o := 20) hL (by assumption) iX6_home_21 fX6_home_55 rfl rfl rfl rfl ?_
      refine am_istore_n_3 iX6_home_24 rfl rfl ?_
      refine am_aload_n iX6_home_25 rfl rfl ?_
      refine y_getR hL (by assumption) iX6_home_26 fX6_home_25 rfl rfl rfl (fun _ => ?_)
      refine am_iload_n iX6_home_29 rfl rfl ?_
      refine y_sess (n) hL (by assumption) iX6_home_30 (by first | rfl | simp only [nI_add, pk_mul, nI_1, nL0, nL1, nL2, nL3, nL4, nL10, nL30, nL300, nL401]) (hn) (fun _ => ?_)
      refine am_iload_n iX6_home_31 rfl rfl ?_
      refine y_putI (o := 20) hL (by assumption) iX6_home_32 fX6_home_55 rfl rfl rfl rfl rfl rfl ?_
      refine am_iload_n iX6_home_35 rfl rfl ?_
      refine am_iret iX6_home_36 rfl ⟨?_, Or.inl ⟨rfl, rfl⟩⟩
      rw [← cm_thU (t := 0) (by decide)]
      exact y_ok1 (X := xU (x_th X 0) 20 n r) (T := T) (N := N) ⟨hI.1, hI.2.1, (hI.2.2.1.th 0).homes n hx, hI.2.2.2.1.cg (fun _ => rfl) (fun _ => rfl) (fun _ => rfl), hI.2.2.2.2.cg (fun _ => rfl)⟩ (by omega) hT
theorem y_speed (hI : INV m G X E P R N T) (hrm : c_rm m) (hT : T + 100 ≤ 1000000) (r v : Int32) : am_W sc 28 0 [.ref (ca G 1 0), .int r, .int v, .retAddr 1] [] (cm m G X E) (y_Q ((x_speed X R r v).2.1 0 2) (kdf ((x_speed X R r v).2.1 0 2)) (.int (x_speed X R r v).1) (y_POST m G (x_speed X R r v).2 P R (T + 100))) := by
  have hL := hI.1
  have h1 := hL.2.1
  have hP := hL.2.2.2
  unfold x_speed
  refine am_iload_n iX6_speed_0 rfl rfl ?_
  refine am_aload_n iX6_speed_1 rfl rfl ?_
  refine y_getR hL (by assumption) iX6_speed_2 fX6_speed_18 rfl rfl rfl (fun _ => ?_)
  refine y_alen (len := R) hL (by assumption) iX6_speed_5 rfl rfl rfl rfl ?_
  cases hr : x_rg r 0 ((R : Int) - 1)
  · refine am_xS2 iX6_speed_6 cX6_speed_39 mX6_needIndex rfl rfl rfl (y_needIndex_x (m := cm m G X E) hrm r (by omega) hr) (am_out rfl ?_)
    exact y_thr hI (by omega) hT (t := 1) (by decide) 8 _
  · refine am_cS2v iX6_speed_6 cX6_speed_39 mX6_needIndex rfl rfl rfl (y_needIndex r (by omega) hr) ?_
    obtain ⟨n, hn, hnt, rfl⟩ := x_rg_ex R hr (by omega)
    rw [hnt]
    refine am_iload_n iX6_speed_9 rfl rfl ?_
    refine am_iconst (i := 0) (v := 0) rfl iX6_speed_10 ?_
    refine am_bipush (i := 10) (v := 10) rfl iX6_speed_11 ?_
    cases hv : x_rg v 0 10
    · refine am_xS3 iX6_speed_13 cX6_speed_43 mX6_needNumber rfl rfl rfl (y_needNumber_x (m := cm m G X E) hrm v 0 10 hv) (am_out rfl ?_)
      exact y_thr hI (by omega) hT (t := 2) (by decide) 9 _
    · refine am_cS3v iX6_speed_13 cX6_speed_43 mX6_needNumber rfl rfl rfl (y_needNumber v 0 10 hv) ?_
      have hx := x_rg_ix (n := 11) hv (by omega)
      refine am_aload_n iX6_speed_16 rfl rfl ?_
      refine y_getR hL (by assumption) iX6_speed_17 fX6_speed_18 rfl rfl rfl (fun _ => ?_)
      refine am_iload_n iX6_speed_20 rfl rfl ?_
      refine y_reps (n) hL (by assumption) iX6_speed_21 (by first | rfl | simp only [nI_add, pk_mul, nI_1, nL0, nL1, nL2, nL3, nL4, nL10, nL30, nL300, nL401]) (hn) (fun _ => ?_)
      refine y_getI (o := 16) hL (by assumption) iX6_speed_22 fX6_speed_104 rfl rfl rfl rfl ?_
      refine am_istore_n_3 iX6_speed_25 rfl rfl ?_
      refine am_aload_n iX6_speed_26 rfl rfl ?_
      refine y_getR hL (by assumption) iX6_speed_27 fX6_speed_18 rfl rfl rfl (fun _ => ?_)
      refine am_iload_n iX6_speed_30 rfl rfl ?_
      refine y_reps (n) hL (by assumption) iX6_speed_31 (by first | rfl | simp only [nI_add, pk_mul, nI_1, nL0, nL1, nL2, nL3, nL4, nL10, nL30, nL300, nL401]) (hn) (fun _ => ?_)
      refine am_iload_n iX6_speed_32 rfl rfl ?_
      refine y_putI (o := 16) hL (by assumption) iX6_speed_33 fX6_speed_104 rfl rfl rfl rfl rfl rfl ?_
      refine am_iload_n iX6_speed_36 rfl rfl ?_
      refine am_iret iX6_speed_37 rfl ⟨?_, Or.inl ⟨rfl, rfl⟩⟩
      rw [← cm_thU (t := 0) (by decide)]
      exact y_ok1 (X := xU (x_th X 0) 16 n v) (T := T) (N := N) ⟨hI.1, hI.2.1, (hI.2.2.1.th 0).speeds n hx, hI.2.2.2.1.cg (fun _ => rfl) (fun _ => rfl) (fun _ => rfl), hI.2.2.2.2.cg (fun _ => rfl)⟩ (by omega) hT
theorem y_step (hI : INV m G X E P R N T) (hrm : c_rm m) (hT : T + 100 ≤ 1000000) (r p : Int32) : am_W sc 27 0 [.ref (ca G 1 0), .int r, .int p] [] (cm m G X E) (y_Q ((x_step X P R N r p).2.1 0 2) (kdf ((x_step X P R N r p).2.1 0 2)) (.int (x_step X P R N r p).1) (y_POST m G (x_step X P R N r p).2 P R (T + 100))) := by
  have hL := hI.1
  have h1 := hL.2.1
  have hP := hL.2.2.2
  unfold x_step
  refine am_iload_n iX6_step_0 rfl rfl ?_
  refine am_aload_n iX6_step_1 rfl rfl ?_
  refine y_getR hL (by assumption) iX6_step_2 fX6_step_18 rfl rfl rfl (fun _ => ?_)
  refine y_alen (len := R) hL (by assumption) iX6_step_5 rfl rfl rfl rfl ?_
  cases hr : x_rg r 0 ((R : Int) - 1)
  · refine am_xS2 iX6_step_6 cX6_step_39 mX6_needIndex rfl rfl rfl (y_needIndex_x (m := cm m G X E) hrm r (by omega) hr) (am_out rfl ?_)
    exact y_thr hI (by omega) hT (t := 1) (by decide) 8 _
  · refine am_cS2v iX6_step_6 cX6_step_39 mX6_needIndex rfl rfl rfl (y_needIndex r (by omega) hr) ?_
    obtain ⟨n, hn, hnt, rfl⟩ := x_rg_ex R hr (by omega)
    rw [hnt]
    refine am_iload_n iX6_step_9 rfl rfl ?_
    refine am_aload_n iX6_step_10 rfl rfl ?_
    refine y_getR hL (by assumption) iX6_step_11 fX6_step_11 rfl rfl rfl (fun _ => ?_)
    refine y_alen (len := P) hL (by assumption) iX6_step_14 rfl rfl rfl rfl ?_
    cases hp : x_rg p 0 ((P : Int) - 1)
    · refine am_xS2 iX6_step_15 cX6_step_39 mX6_needIndex rfl rfl rfl (y_needIndex_x (m := cm m G X E) hrm p (by omega) hp) (am_out rfl ?_)
      exact y_thr hI (by omega) hT (t := 1) (by decide) 8 _
    · refine am_cS2v iX6_step_15 cX6_step_39 mX6_needIndex rfl rfl rfl (y_needIndex p (by omega) hp) ?_
      obtain ⟨j, hj, hjt, rfl⟩ := x_rg_ex P hp (by omega)
      rw [hjt, if_pos (show (true && true) = true from rfl)]
      refine am_aload_n iX6_step_18 rfl rfl ?_
      refine y_getR hL (by assumption) iX6_step_19 fX6_step_18 rfl rfl rfl (fun _ => ?_)
      refine am_iload_n iX6_step_22 rfl rfl ?_
      refine y_reps (n) hL (by assumption) iX6_step_23 (by first | rfl | simp only [nI_add, pk_mul, nI_1, nL0, nL1, nL2, nL3, nL4, nL10, nL30, nL300, nL401]) (hn) (fun _ => ?_)
      refine y_getI (o := 18) hL (by assumption) iX6_step_24 fX6_step_97 rfl rfl rfl rfl ?_
      rw [← cm_th (X := X) (t := 0)]
      refine am_if_eq iX6_step_27 (fun c1 => ?_) (fun c1 => ?_)
      · rw [if_pos c1]
        refine am_bipush (i := -2) (v := -2) rfl iX6_step_39 ?_
        exact am_iret iX6_step_41 rfl ⟨y_ok1 (hI.th 0) (by omega) hT, Or.inl ⟨rfl, rfl⟩⟩
      · rw [if_neg c1]
        refine am_aload_n iX6_step_30 rfl rfl ?_
        refine am_iload_n iX6_step_31 rfl rfl ?_
        refine am_iload_n iX6_step_32 rfl rfl ?_
        refine am_eV2r iX6_step_33 cX6_step_101 mX6_takeStep (y_K hL (by assumption) rfl rfl) rfl rfl rfl (y_step1 (hI.th 0) hn hj) ?_
        intro m2 hm2
        obtain ⟨g', E', q1, q2, q3, q4⟩ := hm2
        subst q4
        refine am_goto iX6_step_36 ?_
        exact am_iret iX6_step_41 rfl ⟨y_okS hI.1 ((hI.th 0).2.1.adv n j) (T := T) (by omega) hT ⟨g', E', q1, q2, q3, rfl⟩, Or.inl ⟨x_adv_th _ _ _ _ _, rfl⟩⟩
theorem y_up (hI : INV m G X E P R N T) (hrm : c_rm m) (hT : T + 100 ≤ 1000000) (r b : Int32) (hb : b = 0 ∨ b = 1) : am_W sc 30 0 [.ref (ca G 1 0), .int r, .int b, .retAddr 1] [] (cm m G X E) (y_Q ((x_up X P R N r b).2.1 0 2) (kdf ((x_up X P R N r b).2.1 0 2)) (.int (x_up X P R N r b).1) (y_POST m G (x_up X P R N r b).2 P R (T + 100))) := by
  have hL := hI.1
  have h1 := hL.2.1
  have hP := hL.2.2.2
  unfold x_up
  refine am_iload_n iX6_up_0 rfl rfl ?_
  refine am_aload_n iX6_up_1 rfl rfl ?_
  refine y_getR hL (by assumption) iX6_up_2 fX6_up_18 rfl rfl rfl (fun _ => ?_)
  refine y_alen (len := R) hL (by assumption) iX6_up_5 rfl rfl rfl rfl ?_
  cases hr : x_rg r 0 ((R : Int) - 1)
  · refine am_xS2 iX6_up_6 cX6_up_39 mX6_needIndex rfl rfl rfl (y_needIndex_x (m := cm m G X E) hrm r (by omega) hr) (am_out rfl ?_)
    exact y_thr hI (by omega) hT (t := 1) (by decide) 8 _
  · refine am_cS2v iX6_up_6 cX6_up_39 mX6_needIndex rfl rfl rfl (y_needIndex r (by omega) hr) ?_
    obtain ⟨n, hn, hnt, rfl⟩ := x_rg_ex R hr (by omega)
    rw [hnt, if_pos rfl]
    have hu := (hI.2.2.1.1.2.2.2.2.2.1 n (by omega)).2.2
    refine am_aload_n iX6_up_9 rfl rfl ?_
    refine y_getR hL (by assumption) iX6_up_10 fX6_up_18 rfl rfl rfl (fun _ => ?_)
    refine am_iload_n iX6_up_13 rfl rfl ?_
    refine y_reps (n) hL (by assumption) iX6_up_14 (by first | rfl | simp only [nI_add, pk_mul, nI_1, nL0, nL1, nL2, nL3, nL4, nL10, nL30, nL300, nL401]) (hn) (fun _ => ?_)
    refine y_getI (o := 18) hL (by assumption) iX6_up_15 fX6_up_97 rfl rfl rfl rfl ?_
    refine am_istore_n_3 iX6_up_18 rfl rfl ?_
    refine am_aload_n iX6_up_19 rfl rfl ?_
    refine y_getR hL (by assumption) iX6_up_20 fX6_up_18 rfl rfl rfl (fun _ => ?_)
    refine am_iload_n iX6_up_23 rfl rfl ?_
    refine y_reps (n) hL (by assumption) iX6_up_24 (by first | rfl | simp only [nI_add, pk_mul, nI_1, nL0, nL1, nL2, nL3, nL4, nL10, nL30, nL300, nL401]) (hn) (fun _ => ?_)
    refine am_iload_n iX6_up_25 rfl rfl ?_
    refine y_putZ (o := 18) hL (by assumption) iX6_up_26 fX6_up_97 rfl rfl (hb) rfl rfl rfl rfl ?_
    rw [← cm_thU (X := X) (t := 0) (by decide)]
    have hI1 : INV m G (xU (x_th X 0) 18 n b) E P R N T := ⟨hI.1, hI.2.1, (hI.2.2.1.th 0).ups n hb, hI.2.2.2.1.cg (fun _ => rfl) (fun _ => rfl) (fun _ => rfl), hI.2.2.2.2.cg (fun _ => rfl)⟩
    refine am_iload_n iX6_up_29 rfl rfl ?_
    refine am_if_eq iX6_up_30 (fun c1 => ?_) (fun c1 => ?_)
    · rw [if_pos c1]
      refine am_iload_n iX6_up_42 rfl rfl ?_
      exact am_zret iX6_up_43 rfl hu ⟨y_ok1 hI1 (by omega) hT, Or.inl ⟨rfl, rfl⟩⟩
    · rw [if_neg c1]
      refine am_iload_n iX6_up_33 rfl rfl ?_
      refine am_if_ne iX6_up_34 (fun c2 => ?_) (fun c2 => ?_)
      · rw [if_neg c2]
        refine am_iload_n iX6_up_42 rfl rfl ?_
        exact am_zret iX6_up_43 rfl hu ⟨y_ok1 hI1 (by omega) hT, Or.inl ⟨rfl, rfl⟩⟩
      · rw [if_pos c2]
        refine am_aload_n iX6_up_37 rfl rfl ?_
        refine am_iload_n iX6_up_38 rfl rfl ?_
        refine am_eV1v iX6_up_39 cX6_up_51 mX6_lookAtWaiting (y_K hL (by assumption) rfl rfl) rfl rfl rfl (y_look1 hI1 hn) ?_
        intro m2 hm2
        have q4 := hm2
        refine am_iload_n iX6_up_42 rfl rfl ?_
        exact am_zret iX6_up_43 rfl hu ⟨y_okS hI.1 (hI1.2.1.look n N) (T := T) (by omega) hT q4, Or.inl ⟨x_look_o _ P n (by decide) (by decide) (by decide) (by decide) N, rfl⟩⟩
theorem y_ticks (hI : INV m G X E P R N T) (hrm : c_rm m) (hT : T + 100 ≤ 1000000) (n : Int32) : am_W sc 29 0 [.ref (ca G 1 0), .int n, .retAddr 1, .retAddr 1, .retAddr 1] [] (cm m G X E) (y_Q ((x_ticks X P R N n).2.1 0 2) 9 (.int (x_ticks X P R N n).1) (y_POST m G (x_ticks X P R N n).2 P R (T + 100))) := by
  have hL := hI.1
  have h1 := hL.2.1
  unfold x_ticks
  refine am_iload_n iX6_ticks_0 rfl rfl ?_
  refine am_iconst (i := 0) (v := 0) rfl iX6_ticks_1 ?_
  refine am_bipush (i := 100) (v := 100) rfl iX6_ticks_2 ?_
  cases hv : x_rg n 0 100
  · refine am_xS3 iX6_ticks_4 cX6_ticks_43 mX6_needNumber rfl rfl rfl (y_needNumber_x (m := cm m G X E) hrm n 0 100 hv) (am_out rfl ?_)
    exact y_thr hI (by omega) hT (t := 1) (by decide) 9 _
  · refine am_cS3v iX6_ticks_4 cX6_ticks_43 mX6_needNumber rfl rfl rfl (y_needNumber n 0 100 hv) ?_
    obtain ⟨j, hj, hjt, rfl⟩ := x_rg_ex 101 hv (by omega)
    rw [hjt, if_pos rfl, ← cm_th (X := X) (t := 0)]
    refine am_iconst (i := 0) (v := 0) rfl iX6_ticks_7 ?_
    refine am_istore_n_2 iX6_ticks_8 rfl rfl ?_
    refine am_iconst (i := 0) (v := 0) rfl iX6_ticks_9 ?_
    refine am_istore_n_3 iX6_ticks_10 rfl rfl ?_
    have hI0 := hI.th 0
    have h := y_ticks_loop (sc := sc) hL (n := j) (by omega) (x_th X 0) hT j 0 (by omega) (am_R m (ca G 24 0)) E hI0.2.1 hI0.2.2.1 hI0.2.2.2.1 hI0.2.2.2.2 (.retAddr 1)
    rw [c_sR_id] at h
    have hM2 : IM m G (x_tksN (x_th X 0) P R N j).2 P N := by
      have : ∀ k, IM m G (x_tksN (x_th X 0) P R N k).2 P N := by
        intro k
        induction k with
        | zero => exact hI0.2.1
        | succ k ih =>
          have tk : ∀ r, IM m G (x_tkR (xU (x_tksN (x_th X 0) P R N k).2 0 3 ((x_tksN (x_th X 0) P R N k).2.1 0 3 + 1)) P N r).2 P N := by
            intro r
            induction r with
            | zero => exact ih
            | succ r ih2 => exact ih2.run r _ _ _ _
          exact (tk R).cg (fun _ => x_flN_o _ (by decide) (by decide) N) (fun _ => x_flN_o _ (by decide) (by decide) N)
      exact this j
    exact h.mono (fun o m' q => ⟨y_okS hL hM2 (T := T + j) (by omega) hT q.2, Or.inl ⟨x_tksN_th _ _ _ _ _, q.1⟩⟩)
end
