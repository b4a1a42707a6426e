/-! the class: snapshot, crash, trim, logged -/
section
variable {sc : Nat × (Nat → Int32)} {m : am_Mem} {G : cg_G} {X E : ms_X} {P R N T : Nat}
theorem y_keep (hL : LC m G P R) {r : Nat} (hr : cx G 4 r) : am_W sc 7 0 [.ref (ca G 4 r)] [] (cm m G X E) (am_R1 none (cm m G (x_copy X r (4 + r)) E)) := by
  have hft : r ≠ 4 + r := by omega
  refine am_aload_n iX3_keep_0 rfl rfl ?_
  refine y_getR hL (by assumption) iX3_keep_1 fX3_keep_18 rfl rfl rfl (fun _ => ?_)
  refine am_aload_n iX3_keep_4 rfl rfl ?_
  refine y_getR hL (by assumption) iX3_keep_5 fX3_keep_12 rfl rfl rfl (fun _ => ?_)
  refine am_cV1v iX3_keep_8 cX3_keep_32 mX5_becomeLike (y_K hL (by assumption) rfl rfl) rfl rfl rfl (y_becomeLike hL (by assumption) (by assumption) hft) ?_
  refine am_aload_n iX3_keep_11 rfl rfl ?_
  refine y_getR hL (by assumption) iX3_keep_12 fX3_keep_21 rfl rfl rfl (fun _ => ?_)
  refine am_iconst (i := 0) (v := 0) rfl iX3_keep_15 ?_
  refine am_aload_n iX3_keep_16 rfl rfl ?_
  refine y_getR hL (by assumption) iX3_keep_17 fX3_keep_25 rfl rfl rfl (fun _ => ?_)
  refine am_iconst (i := 0) (v := 0) rfl iX3_keep_20 ?_
  refine am_iconst (i := 3) (v := 3) rfl iX3_keep_21 ?_
  have hf : cx G 13 r := by assumption
  have ht : cx G 13 (4 + r) := by assumption
  refine am_copyI iX3_keep_22 wd_514 wd_513 wd_512 wd_15 (y_K hL hf rfl rfl) (y_K hL ht rfl rfl) (by decide) (by decide) (by decide) (by rw [y_L hL hf rfl]; exact Nat.le_refl _) (by rw [y_L hL ht rfl]; exact Nat.le_refl _) (Nat.le_of_ble_eq_true rfl) (Nat.le_of_ble_eq_true rfl) ?_
  show am_W _ _ _ _ _ (am_rowI (cm m G (x_cp X r (4 + r) 30 30 30 30 300 10 10 0) E) (ca G 13 (4 + r)) (va_cpy (am_I (cm m G (x_cp X r (4 + r) 30 30 30 30 300 10 10 0) E) (ca G 13 r)) (am_I (cm m G (x_cp X r (4 + r) 30 30 30 30 300 10 10 0) E) (ca G 13 (4 + r))) 0 0 3)) _
  rw [y_rowI (o := 15) (c := 3) hL hf ht rfl (by decide) (by decide) (fun _ _ => rfl), xrc_cp hft 15 3 rfl rfl (a' := 30) (b' := 30) (c' := 30) (d' := 30) (e' := 300) (h' := 10) (i' := 3) rfl (x_ne1 (fun q hq => ⟨fun _ => rfl, fun _ => rfl, fun _ => rfl, fun _ => rfl, fun _ => rfl, fun _ => rfl, fun z => absurd z hq⟩))]
  exact am_vret iX3_keep_25 rfl (⟨rfl, rfl⟩)
theorem y_comeAgain (hL : LC m G P R) {r : Nat} (hr : cx G 4 r) : am_W sc 8 0 [.ref (ca G 4 r)] [] (cm m G X E) (am_R1 none (cm m G (x_copy X (4 + r) r) E)) := by
  have hft : 4 + r ≠ r := by omega
  refine am_aload_n iX3_comeAgain_0 rfl rfl ?_
  refine y_getR hL (by assumption) iX3_comeAgain_1 fX3_comeAgain_12 rfl rfl rfl (fun _ => ?_)
  refine am_aload_n iX3_comeAgain_4 rfl rfl ?_
  refine y_getR hL (by assumption) iX3_comeAgain_5 fX3_comeAgain_18 rfl rfl rfl (fun _ => ?_)
  refine am_cV1v iX3_comeAgain_8 cX3_comeAgain_32 mX5_becomeLike (y_K hL (by assumption) rfl rfl) rfl rfl rfl (y_becomeLike hL (by assumption) (by assumption) hft) ?_
  refine am_aload_n iX3_comeAgain_11 rfl rfl ?_
  refine y_getR hL (by assumption) iX3_comeAgain_12 fX3_comeAgain_25 rfl rfl rfl (fun _ => ?_)
  refine am_iconst (i := 0) (v := 0) rfl iX3_comeAgain_15 ?_
  refine am_aload_n iX3_comeAgain_16 rfl rfl ?_
  refine y_getR hL (by assumption) iX3_comeAgain_17 fX3_comeAgain_21 rfl rfl rfl (fun _ => ?_)
  refine am_iconst (i := 0) (v := 0) rfl iX3_comeAgain_20 ?_
  refine am_iconst (i := 3) (v := 3) rfl iX3_comeAgain_21 ?_
  have hf : cx G 13 (4 + r) := by assumption
  have ht : cx G 13 r := by assumption
  refine am_copyI iX3_comeAgain_22 wd_514 wd_513 wd_512 wd_15 (y_K hL hf rfl rfl) (y_K hL ht rfl rfl) (by decide) (by decide) (by decide) (by rw [y_L hL hf rfl]; exact Nat.le_refl _) (by rw [y_L hL ht rfl]; exact Nat.le_refl _) (Nat.le_of_ble_eq_true rfl) (Nat.le_of_ble_eq_true rfl) ?_
  show am_W _ _ _ _ _ (am_rowI (cm m G (x_cp X (4 + r) r 30 30 30 30 300 10 10 0) E) (ca G 13 r) (va_cpy (am_I (cm m G (x_cp X (4 + r) r 30 30 30 30 300 10 10 0) E) (ca G 13 (4 + r))) (am_I (cm m G (x_cp X (4 + r) r 30 30 30 30 300 10 10 0) E) (ca G 13 r)) 0 0 3)) _
  rw [y_rowI (o := 15) (c := 3) hL hf ht rfl (by decide) (by decide) (fun _ _ => rfl), xrc_cp hft 15 3 rfl rfl (a' := 30) (b' := 30) (c' := 30) (d' := 30) (e' := 300) (h' := 10) (i' := 3) rfl (x_ne1 (fun q hq => ⟨fun _ => rfl, fun _ => rfl, fun _ => rfl, fun _ => rfl, fun _ => rfl, fun _ => rfl, fun z => absurd z hq⟩))]
  exact am_vret iX3_comeAgain_25 rfl (⟨rfl, rfl⟩)
theorem x_copy_sold (X : ms_X) (f t : Nat) {r p : Nat} (hp : p < 30) : (x_copy X f t).1 10 (30 * r + p) = if r = t then X.1 10 (30 * f + p) else X.1 10 (30 * r + p) := by
  show x_cpf X.1 f t (x_c4 30 30 30 30 300 0 10 3) 10 (30 * r + p) = _
  unfold x_cpf
  show (if 30 * t ≤ 30 * r + p ∧ 30 * r + p < 30 * t + 30 then X.1 10 (30 * f + (30 * r + p - 30 * t)) else X.1 10 (30 * r + p)) = _
  by_cases e : r = t
  · subst e
    rw [if_pos rfl, if_pos (by omega), show 30 * r + p - 30 * r = p by omega]
  · rw [if_neg e, if_neg (by omega)]
theorem IA.copy (h : IA X E P R N T) {f t : Nat} (hf : f < 8) (h3 : ∀ r p, r < R → p < 3 → nt (X.1 2 p) ≤ nt ((x_copy X f t).1 15 (3 * (4 + r) + p)) ∧ nt ((x_copy X f t).1 15 (3 * (4 + r) + p)) ≤ nt ((x_copy X f t).1 15 (3 * r + p))) : IA (x_copy X f t) E P R N T := by
  obtain ⟨a1, a2, a3, a4, a5, a6, a7, a8, a9⟩ := h
  refine ⟨a1.copy hf, fun p hp => ?_, fun r p hr hp => ?_, fun q hq hq3 => ?_, fun p i hp h1 h2 => ?_, fun r i hr hi => ?_, fun k hk => ?_, ?_, a9⟩
  · rw [x_copy_o _ _ _ (by omega)]; exact a2 p hp
  · rw [x_copy_o (a := 2) _ _ _ (by omega)]; exact h3 r p hr hp
  · obtain ⟨b1, b2, b3⟩ := a4 q hq hq3
    refine ⟨by rw [x_copy_o _ _ _ (by omega)]; exact b1, fun r hr => ?_, fun s hs => by rw [x_copy_o _ _ _ (by omega)]; exact b3 s hs⟩
    rw [x_copy_at _ _ _ hq3]
    split
    · exact b2 f hf
    · exact b2 r hr
  · rw [x_copy_o _ _ _ (by omega)] at h2
    obtain ⟨b1, b2, b3⟩ := a5 p i hp h1 h2
    refine ⟨by rw [x_copy_o _ _ _ (by omega)]; exact b1, by rw [x_copy_o _ _ _ (by omega)]; exact b2, fun q hq hq3 => by rw [x_copy_o _ _ _ (by omega)]; exact b3 q hq hq3⟩
  · have e0 : (x_copy X f t).1 15 (3 * r) = if r = t then X.1 15 (3 * f) else X.1 15 (3 * r) := x_copy_at X f t (r := r) (p := 0) (by omega)
    rw [x_copy_sold _ _ _ hi, e0, x_copy_at _ _ _ (by omega), x_copy_at _ _ _ (by omega)]
    by_cases e : r = t
    · rw [if_pos e, if_pos e, if_pos e, if_pos e]; exact a6 f i hf hi
    · rw [if_neg e, if_neg e, if_neg e, if_neg e]; exact a6 r i hr hi
  · obtain ⟨b1, a, b, b2, b3, b4, b5, b6⟩ := a7 k hk
    refine ⟨?_, a, b, ?_, ?_, b4, ?_, b6⟩
    · rw [x_copy_o _ _ _ (by omega)]
      exact b1.cg (fun o j ho => x_copy_o _ _ _ (by omega)) rfl
    · rw [x_copy_o _ _ _ (by omega)]; exact b2
    · rw [x_copy_o _ _ _ (by omega)]; exact b3
    · rw [x_copy_o _ _ _ (by omega)]; exact b5
  · rw [x_copy_o _ _ _ (by omega)]; exact a8
theorem INV.copy (h : INV m G X E P R N T) {f t : Nat} (hf : f < 8) (h3 : ∀ r p, r < R → p < 3 → nt (X.1 2 p) ≤ nt ((x_copy X f t).1 15 (3 * (4 + r) + p)) ∧ nt ((x_copy X f t).1 15 (3 * (4 + r) + p)) ≤ nt ((x_copy X f t).1 15 (3 * r + p))) : INV m G (x_copy X f t) E P R N T :=
  ⟨h.1, h.2.1.cg (fun _ => x_copy_o _ _ _ (by omega)) (fun _ => x_copy_o _ _ _ (by omega)), h.2.2.1.copy hf h3, h.2.2.2.1.cg (fun _ => x_copy_o _ _ _ (by omega)) (fun _ => x_copy_o _ _ _ (by omega)) (fun _ => rfl) (fun _ => x_copy_o _ _ _ (by omega)) (fun _ => x_copy_o _ _ _ (by omega)), h.2.2.2.2.cg (fun _ => x_copy_o _ _ _ (by omega))⟩
theorem y_sumX {n : Nat} (h : cx G 13 n) : am_I (cm m G X E) (ca G 13 n) 0 + am_I (cm m G X E) (ca G 13 n) 1 + am_I (cm m G X E) (ca G 13 n) 2 = x_sum X n := by
  rw [y_I h (j := 0) (o := 15) (i := 3 * n) (by decide) rfl rfl, y_I h (j := 1) (o := 15) (i := 3 * n + 1) (by decide) rfl rfl, y_I h (j := 2) (o := 15) (i := 3 * n + 2) (by decide) rfl rfl]
  rfl
theorem y_snapshot (hI : INV m G X E P R N T) (hrm : c_rm m) (hT : T + 100 ≤ 1000000) (r : Int32) : am_W sc 31 0 [.ref (ca G 1 0), .int r, .retAddr 1] [] (cm m G X E) (y_Q ((x_snap X R r).2.1 0 2) (kdf ((x_snap X R r).2.1 0 2)) (.int (x_snap X R r).1) (y_POST m G (x_snap X R r).2 P R (T + 100))) := by
  have hL := hI.1
  have h1 := hL.2.1
  have hP := hL.2.2.2
  unfold x_snap
  refine am_iload_n iX6_snapshot_0 rfl rfl ?_
  refine am_aload_n iX6_snapshot_1 rfl rfl ?_
  refine y_getR hL (by assumption) iX6_snapshot_2 fX6_snapshot_18 rfl rfl rfl (fun _ => ?_)
  refine y_alen (len := R) hL (by assumption) iX6_snapshot_5 rfl rfl rfl rfl ?_
  cases hr : x_rg r 0 ((R : Int) - 1)
  · refine am_xS2 iX6_snapshot_6 cX6_snapshot_39 mX6_needIndex rfl rfl rfl (y_needIndex_x (m := cm m G X E) hrm r (by omega) hr) (am_out rfl ?_)
    exact y_thr hI (by omega) hT (t := 1) (by decide) 8 _
  · refine am_cS2v iX6_snapshot_6 cX6_snapshot_39 mX6_needIndex rfl rfl rfl (y_needIndex r (by omega) hr) ?_
    obtain ⟨n, hn, hnt, rfl⟩ := x_rg_ex R hr (by omega)
    rw [hnt, if_pos rfl, ← cm_th (X := X) (t := 0)]
    refine am_aload_n iX6_snapshot_9 rfl rfl ?_
    refine y_getR hL (by assumption) iX6_snapshot_10 fX6_snapshot_18 rfl rfl rfl (fun _ => ?_)
    refine am_iload_n iX6_snapshot_13 rfl rfl ?_
    refine y_reps (n) hL (by assumption) iX6_snapshot_14 (by first | rfl | simp only [nI_add, pk_mul, nI_1, nL0, nL1, nL2, nL3, nL4, nL10, nL30, nL300, nL401]) (hn) (fun _ => ?_)
    refine am_astore_n_2 iX6_snapshot_15 rfl rfl ?_
    refine am_aload_n iX6_snapshot_16 rfl rfl ?_
    refine am_cV0v iX6_snapshot_17 cX6_snapshot_117 mX3_keep (y_K hL (by assumption) rfl rfl) rfl rfl rfl (y_keep hL (by assumption)) ?_
    refine am_aload_n iX6_snapshot_20 rfl rfl ?_
    refine y_getR hL (by assumption) iX6_snapshot_21 fX6_snapshot_120 rfl rfl rfl (fun _ => ?_)
    have hk : cx G 13 (4 + n) := by assumption
    refine am_cS1r iX6_snapshot_24 cX6_snapshot_123 mX6_sum rfl rfl rfl (y_sum (y_K hL hk rfl rfl) (y_L hL hk rfl)) ?_
    rw [y_sumX hk]
    have hv : x_sum (x_copy (x_th X 0) n (4 + n)) (4 + n) = x_sum (x_copy (x_th X 0) n (4 + n)) n := by
      have c1 : ∀ p, p < 3 → (x_copy (x_th X 0) n (4 + n)).1 15 (3 * (4 + n) + p) = (x_copy (x_th X 0) n (4 + n)).1 15 (3 * n + p) := fun p hp => by
        rw [x_copy_at _ _ _ hp, x_copy_at _ _ _ hp, if_pos rfl, if_neg (by omega)]
      have c0 := c1 0 (by omega)
      show (x_copy (x_th X 0) n (4 + n)).1 15 (3 * (4 + n) + 0) + _ + _ = (x_copy (x_th X 0) n (4 + n)).1 15 (3 * n + 0) + _ + _
      rw [c0, c1 1 (by omega), c1 2 (by omega)]
    rw [hv]
    refine am_iret iX6_snapshot_27 rfl ⟨y_ok1 ((hI.th 0).copy (by omega) (fun r p hr hp => ?_)) (by omega) hT, Or.inl ⟨x_copy_o _ _ _ (by omega), rfl⟩⟩
    obtain ⟨b1, b2⟩ := (hI.th 0).2.2.1.2.2.1 r p hr hp
    rw [x_copy_at _ _ _ hp, x_copy_at _ _ _ hp, if_neg (show ¬ r = 4 + n by omega)]
    by_cases e : r = n
    · subst e
      rw [if_pos rfl]
      exact ⟨Nat.le_trans b1 b2, Nat.le_refl _⟩
    · rw [if_neg (by omega)]
      exact ⟨b1, b2⟩
theorem y_crash (hI : INV m G X E P R N T) (hrm : c_rm m) (hT : T + 100 ≤ 1000000) (r : Int32) : am_W sc 32 0 [.ref (ca G 1 0), .int r, .retAddr 1, .retAddr 1] [] (cm m G X E) (y_Q ((x_crsh X R r).2.1 0 2) (kdf ((x_crsh X R r).2.1 0 2)) (.int (x_crsh X R r).1) (y_POST m G (x_crsh X R r).2 P R (T + 100))) := by
  have hL := hI.1
  have h1 := hL.2.1
  have hP := hL.2.2.2
  unfold x_crsh
  refine am_iload_n iX6_crash_0 rfl rfl ?_
  refine am_aload_n iX6_crash_1 rfl rfl ?_
  refine y_getR hL (by assumption) iX6_crash_2 fX6_crash_18 rfl rfl rfl (fun _ => ?_)
  refine y_alen (len := R) hL (by assumption) iX6_crash_5 rfl rfl rfl rfl ?_
  cases hr : x_rg r 0 ((R : Int) - 1)
  · refine am_xS2 iX6_crash_6 cX6_crash_39 mX6_needIndex rfl rfl rfl (y_needIndex_x (m := cm m G X E) hrm r (by omega) hr) (am_out rfl ?_)
    exact y_thr hI (by omega) hT (t := 1) (by decide) 8 _
  · refine am_cS2v iX6_crash_6 cX6_crash_39 mX6_needIndex rfl rfl rfl (y_needIndex r (by omega) hr) ?_
    obtain ⟨n, hn, hnt, rfl⟩ := x_rg_ex R hr (by omega)
    rw [hnt, if_pos rfl, ← cm_th (X := X) (t := 0)]
    refine am_aload_n iX6_crash_9 rfl rfl ?_
    refine y_getR hL (by assumption) iX6_crash_10 fX6_crash_18 rfl rfl rfl (fun _ => ?_)
    refine am_iload_n iX6_crash_13 rfl rfl ?_
    refine y_reps (n) hL (by assumption) iX6_crash_14 (by first | rfl | simp only [nI_add, pk_mul, nI_1, nL0, nL1, nL2, nL3, nL4, nL10, nL30, nL300, nL401]) (hn) (fun _ => ?_)
    refine am_astore_n_2 iX6_crash_15 rfl rfl ?_
    refine am_aload_n iX6_crash_16 rfl rfl ?_
    refine y_getR hL (by assumption) iX6_crash_17 fX6_crash_127 rfl rfl rfl (fun _ => ?_)
    have ha : cx G 13 n := by assumption
    refine am_cS1r iX6_crash_20 cX6_crash_123 mX6_sum rfl rfl rfl (y_sum (y_K hL ha rfl rfl) (y_L hL ha rfl)) ?_
    rw [y_sumX ha]
    refine am_aload_n iX6_crash_23 rfl rfl ?_
    refine y_getR hL (by assumption) iX6_crash_24 fX6_crash_120 rfl rfl rfl (fun _ => ?_)
    have hk : cx G 13 (4 + n) := by assumption
    refine am_cS1r iX6_crash_27 cX6_crash_123 mX6_sum rfl rfl rfl (y_sum (y_K hL hk rfl rfl) (y_L hL hk rfl)) ?_
    rw [y_sumX hk]
    refine am_isub iX6_crash_30 ?_
    refine am_istore_n_3 iX6_crash_31 rfl rfl ?_
    refine am_aload_n iX6_crash_32 rfl rfl ?_
    refine am_cV0v iX6_crash_33 cX6_crash_130 mX3_comeAgain (y_K hL (by assumption) rfl rfl) rfl rfl rfl (y_comeAgain hL (by assumption)) ?_
    refine am_iload_n iX6_crash_36 rfl rfl ?_
    refine am_iret iX6_crash_37 rfl ⟨y_ok1 ((hI.th 0).copy (by omega) (fun r p hr hp => ?_)) (by omega) hT, Or.inl ⟨x_copy_o _ _ _ (by omega), rfl⟩⟩
    obtain ⟨b1, b2⟩ := (hI.th 0).2.2.1.2.2.1 r p hr hp
    rw [x_copy_at _ _ _ hp, x_copy_at _ _ _ hp, if_neg (show ¬ 4 + r = n by omega)]
    by_cases e : r = n
    · subst e
      rw [if_pos rfl]
      exact ⟨b1, Nat.le_refl _⟩
    · rw [if_neg e]
      exact ⟨b1, b2⟩
theorem y_leastKept (hL : LC m G P R) {p : Nat} (hp : p < 3) : am_W sc 54 0 [.ref (ca G 1 0), .int (nI p), .retAddr 1, .retAddr 1, .retAddr 1, .retAddr 1, .retAddr 1] [] (cm m G X E) (am_R1 (some (.int (x_lst X p R))) (cm m G X E)) := by
  have h1 := hL.2.1
  have hP := hL.2.2.2
  refine am_sipush (i := 400) (v := 400) rfl iX6_leastKept_0 ?_
  refine am_istore_n_2 iX6_leastKept_3 rfl rfl ?_
  refine am_aload_n iX6_leastKept_4 rfl rfl ?_
  refine y_getR hL (by assumption) iX6_leastKept_5 fX6_leastKept_18 rfl rfl rfl (fun _ => ?_)
  refine am_astore_n_3 iX6_leastKept_8 rfl rfl ?_
  refine am_aload_n iX6_leastKept_9 rfl rfl ?_
  refine y_alen (len := R) hL (by assumption) iX6_leastKept_10 rfl rfl rfl rfl ?_
  refine am_istore_4 iX6_leastKept_11 rfl rfl ?_
  refine am_iconst (i := 0) (v := 0) rfl iX6_leastKept_13 ?_
  refine am_istore_5 iX6_leastKept_14 rfl rfl ?_
  have h21 : cx G 21 0 := by assumption
  have key : ∀ d i, i + d = R → ∀ w6, am_W sc 54 16 [.ref (ca G 1 0), .int (nI p), .int (x_lst X p i), .ref (ca G 21 0), .int (nI R), .int (nI i), w6] [] (cm m G X E) (am_R1 (some (.int (x_lst X p R))) (cm m G X E)) := by
    intro d
    induction d with
    | zero =>
      intro i hi w6
      have e : R = i := by omega
      subst e
      refine am_iload iX6_leastKept_16 rfl ?_
      refine am_iload iX6_leastKept_18 rfl ?_
      refine am_icmp_ge iX6_leastKept_20 (fun _ => ?_) (fun hc => absurd (nI_le (Nat.le_refl _) (by omega)) hc)
      refine am_iload_n iX6_leastKept_47 rfl rfl ?_
      exact am_iret iX6_leastKept_48 rfl (⟨rfl, rfl⟩)
    | succ d ih =>
      intro i hi w6
      refine am_iload iX6_leastKept_16 rfl ?_
      refine am_iload iX6_leastKept_18 rfl ?_
      refine am_icmp_ge iX6_leastKept_20 (fun hc => absurd hc (fun q => absurd ((nI_leI (by omega) (by omega)).mp q) (by omega))) (fun _ => ?_)
      refine am_aload_n iX6_leastKept_23 rfl rfl ?_
      refine am_iload iX6_leastKept_24 rfl ?_
      refine y_reps (i) hL (by assumption) iX6_leastKept_26 (by first | rfl | simp only [nI_add, pk_mul, nI_1, nL0, nL1, nL2, nL3, nL4, nL10, nL30, nL300, nL401]) ((show i < R by omega)) (fun _ => ?_)
      refine am_astore_6 iX6_leastKept_27 rfl rfl ?_
      refine am_iload_n iX6_leastKept_29 rfl rfl ?_
      refine am_aload iX6_leastKept_30 rfl ?_
      refine y_getR hL (by assumption) iX6_leastKept_32 fX6_leastKept_120 rfl rfl rfl (fun _ => ?_)
      refine am_iload_n iX6_leastKept_35 rfl rfl ?_
      refine y_iald (p) hL (by assumption) iX6_leastKept_36 (by first | rfl | simp only [nI_add, pk_mul, nI_1, nL0, nL1, nL2, nL3, nL4, nL10, nL30, nL300, nL401]) (hp) rfl rfl rfl rfl ?_
      refine am_mmin iX6_leastKept_37 wd_173 wd_174 wd_12 g_mn3 (Nat.le_of_ble_eq_true rfl) (Nat.le_of_ble_eq_true rfl) ?_
      rw [mn_eq]
      refine am_istore_n_2 iX6_leastKept_40 rfl rfl ?_
      refine am_iinc_5 1 iX6_leastKept_41 rfl rfl rfl ?_
      refine am_goto iX6_leastKept_44 ?_
      rw [nI_1]
      exact ih (i + 1) (by omega) _
  exact key R 0 (by omega) _
theorem LC.sRg (hL : LC m G P R) {t0 n0 : Nat} (h0 : cx G t0 n0) (hc : ∀ j, crf P R t0 n0 j = none) (g : Nat → Nat) : LC (c_sR m (ca G t0 n0) g) G P R := by
  refine ⟨hL.1, hL.2.1, fun t n j t' n' he hr => ?_, hL.2.2.2⟩
  obtain ⟨h1, h2⟩ := hL.2.2.1 t n j t' n' he hr
  refine ⟨?_, h2⟩
  rw [c_sR_Ro]
  · exact h1
  · intro e
    obtain ⟨rfl, rfl⟩ := cx_inj he h0 e
    rw [hc] at hr
    cases hr
theorem y_dropTo (hL0 : LC m G P R) {p t l e : Nat} (hp : cx G 2 p) (h2 : X.1 2 p = nI t) (h1e : X.1 1 p = nI e) (htl : t ≤ l) (hle : l ≤ e) (he : e ≤ 400) : am_W sc 4 0 [.ref (ca G 2 p), .int (nI l), .retAddr 1, .retAddr 1] [] (cm m G X E) (am_RE (some (.int (nI (l - t)))) (fun m' => ∃ g, (∀ i, l ≤ i → g i = am_R m (ca G 3 p) i) ∧ m' = cm (c_sR m (ca G 3 p) g) G (xU X 2 p (nI l)) E)) := by
  have hc3 : cx G 3 p := (hL0.2.2.1 2 p 0 3 p hp rfl).2
  have key : ∀ d j, j + d = l → t ≤ j → ∀ g : Nat → Nat, (∀ i, l ≤ i → g i = am_R m (ca G 3 p) i) → am_W sc 4 9 [.ref (ca G 2 p), .int (nI l), .int (nI (j - t)), .int (nI (j + 1))] [] (cm (c_sR m (ca G 3 p) g) G X E) (am_RE (some (.int (nI (l - t)))) (fun m' => ∃ g, (∀ i, l ≤ i → g i = am_R m (ca G 3 p) i) ∧ m' = cm (c_sR m (ca G 3 p) g) G (xU X 2 p (nI l)) E)) := by
    intro d
    induction d with
    | zero =>
      intro j hj htj g hg
      have e0 : l = j := by omega
      subst e0
      have hL := hL0.sRg hc3 (fun _ => rfl) g
      refine am_iload_n iX1_dropTo_9 rfl rfl ?_
      refine am_iload_n iX1_dropTo_10 rfl rfl ?_
      refine am_icmp_gt iX1_dropTo_11 (fun _ => ?_) (fun hc => absurd (nI_lt (by omega) (by omega)) hc)
      refine am_aload_n iX1_dropTo_40 rfl rfl ?_
      refine am_dup iX1_dropTo_41 rfl ?_
      refine y_getI (o := 2) hL (by assumption) iX1_dropTo_42 fX1_dropTo_17 rfl rfl rfl rfl ?_
      refine am_iload_n iX1_dropTo_45 rfl rfl ?_
      refine am_iadd iX1_dropTo_46 ?_
      refine y_putI (o := 2) hL (by assumption) iX1_dropTo_47 fX1_dropTo_17 rfl rfl rfl rfl rfl rfl ?_
      refine am_iload_n iX1_dropTo_50 rfl rfl ?_
      have e5 : X.1 2 p + nI (l - t) = nI l := by
        rw [h2, nI_add, show t + (l - t) = l by omega]
      rw [e5]
      exact am_iret iX1_dropTo_51 rfl ⟨rfl, g, hg, rfl⟩
    | succ d ih =>
      intro j hj htj g hg
      have hL := hL0.sRg hc3 (fun _ => rfl) g
      refine am_iload_n iX1_dropTo_9 rfl rfl ?_
      refine am_iload_n iX1_dropTo_10 rfl rfl ?_
      refine am_icmp_gt iX1_dropTo_11 (fun hc => absurd hc (fun q => absurd ((nI_ltI (by omega) (by omega)).mp q) (by omega))) (fun _ => ?_)
      refine am_iload_n iX1_dropTo_14 rfl rfl ?_
      refine am_aload_n iX1_dropTo_15 rfl rfl ?_
      refine y_getI (o := 1) hL (by assumption) iX1_dropTo_16 fX1_dropTo_21 rfl rfl rfl rfl ?_
      rw [h1e]
      refine am_icmp_gt iX1_dropTo_19 (fun hc => absurd hc (fun q => absurd ((nI_ltI (by omega) (by omega)).mp q) (by omega))) (fun _ => ?_)
      refine am_aload_n iX1_dropTo_22 rfl rfl ?_
      refine y_getR hL (by assumption) iX1_dropTo_23 fX1_dropTo_11 rfl rfl rfl (fun _ => ?_)
      refine am_iload_n iX1_dropTo_26 rfl rfl ?_
      refine am_iconst (i := 1) (v := 1) rfl iX1_dropTo_27 ?_
      refine am_isub iX1_dropTo_28 ?_
      refine am_null iX1_dropTo_29 ?_
      rw [nL1, pk_sub (by omega)]
      refine am_aast (ci := 0) iX1_dropTo_30 (y_K hL hc3 rfl rfl) (by decide) (Or.inl rfl) (by rw [y_L hL hc3 rfl]; exact vp_in_nI (N := 400) (by omega) (by decide)) ?_
      rw [nI_clamp (by omega), c_sR_set]
      have hL := hL0.sRg hc3 (fun _ => rfl) (fun i => if i = j + 1 - 1 then 0 else g i)
      refine am_iinc_2 1 iX1_dropTo_31 rfl rfl rfl ?_
      refine am_iinc_3 1 iX1_dropTo_34 rfl rfl rfl ?_
      refine am_goto iX1_dropTo_37 ?_
      rw [nI_1, nI_1, show j - t + 1 = j + 1 - t by omega]
      refine ih (j + 1) (by omega) (by omega) _ (fun i hi => ?_)
      rw [if_neg (by omega)]
      exact hg i hi
  have hL := hL0
  refine am_iconst (i := 0) (v := 0) rfl iX1_dropTo_0 ?_
  refine am_istore_n_2 iX1_dropTo_1 rfl rfl ?_
  refine am_aload_n iX1_dropTo_2 rfl rfl ?_
  refine y_getI (o := 2) hL (by assumption) iX1_dropTo_3 fX1_dropTo_17 rfl rfl rfl rfl ?_
  refine am_iconst (i := 1) (v := 1) rfl iX1_dropTo_6 ?_
  refine am_iadd iX1_dropTo_7 ?_
  refine am_istore_n_3 iX1_dropTo_8 rfl rfl ?_
  rw [h2, nI_1]
  have := key (l - t) t (by omega) (Nat.le_refl _) (am_R m (ca G 3 p)) (fun _ _ => rfl)
  rw [Nat.sub_self, c_sR_id] at this
  exact this
theorem x_lst_le {p t : Nat} (h : ∀ r, r < R → ∃ v, X.1 15 (3 * (4 + r) + p) = nI v ∧ t ≤ v ∧ v ≤ 400) (ht : t ≤ 400) : ∀ n, n ≤ R → ∃ l, x_lst X p n = nI l ∧ t ≤ l ∧ l ≤ 400 ∧ ∀ r, r < n → l ≤ nt (X.1 15 (3 * (4 + r) + p))
  | 0, _ => ⟨400, rfl, ht, Nat.le_refl _, fun r hr => by omega⟩
  | n + 1, hn => by
    obtain ⟨l, e, l1, l2, l3⟩ := x_lst_le h ht n (by omega)
    obtain ⟨v, ev, v1, v2⟩ := h n (by omega)
    unfold x_lst
    rw [e, ev]
    by_cases c : l < v
    · rw [if_pos (nI_lt c (by omega))]
      refine ⟨l, rfl, l1, l2, fun r hr => ?_⟩
      by_cases e2 : r = n
      · subst e2; rw [ev, nt_nI (by omega)]; omega
      · exact l3 r (by omega)
    · rw [if_neg (fun q => c ((nI_ltI (by omega) (by omega)).mp q))]
      refine ⟨v, rfl, v1, v2, fun r hr => ?_⟩
      by_cases e2 : r = n
      · subst e2; rw [ev, nt_nI (by omega)]; omega
      · have := l3 r (by omega)
        omega
theorem IA.drop (h : IA X E P R N T) {p l : Nat} (hl : l ≤ 400) (hk : ∀ r, r < R → l ≤ nt (X.1 15 (3 * (4 + r) + p))) : IA (xU X 2 p (nI l)) E P R N T := by
  obtain ⟨a1, a2, a3, a4, a5, a6, a7, a8, a9⟩ := h
  refine ⟨a1.cg (fun j _ _ => xU_o _ _ (by decide)) (fun o j ho => xU_o _ _ (x_ws_ne ho).2.2.2.2.2.2.2.2.2.2.2.1), fun q hq => ?_, fun r q hr hq => ?_, a4, a5, a6, a7, a8, a9⟩
  · by_cases e : q = p
    · subst e
      rw [xU_s]
      exact x_ix_nI (by omega) (by omega)
    · rw [xU_j _ _ e]; exact a2 q hq
  · obtain ⟨b1, b2⟩ := a3 r q hr hq
    refine ⟨?_, b2⟩
    show nt ((xU X 2 p (nI l)).1 2 q) ≤ nt (X.1 15 (3 * (4 + r) + q))
    by_cases e : q = p
    · subst e
      rw [xU_s, nt_nI (by omega)]
      exact hk r hr
    · rw [xU_j _ _ e]; exact b1
theorem LC.e3 (hL : LC m G P R) {p : Nat} (hp : p < P) : cx G 3 p := (hL.2.2.1 2 p 0 3 p (hL.2.2.1 20 0 p 2 p (hL.2.2.1 1 0 0 20 0 hL.2.1 rfl).2 (if_pos hp)).2 rfl).2
theorem LC.e23 (hL : LC m G P R) : cx G 23 0 := (hL.2.2.1 1 0 3 23 0 hL.2.1 rfl).2
theorem INV.drop (h : INV m G X E P R N T) {p l : Nat} (hp : p < P) (g : Nat → Nat) (hg : ∀ i, l ≤ i → g i = am_R m (ca G 3 p) i) (hl : l ≤ 400) (hlt : nt (X.1 2 p) ≤ l) (hk : ∀ r, r < R → l ≤ nt (X.1 15 (3 * (4 + r) + p))) : INV (c_sR m (ca G 3 p) g) G (xU X 2 p (nI l)) E P R N T := by
  have hL := h.1
  have e3 := hL.e3 hp
  refine ⟨hL.sRg e3 (fun _ => rfl) g, ⟨fun k hk => ?_, fun p' q hp' h1 h2 => ?_, h.2.1.2.2⟩, h.2.2.1.drop hl hk, h.2.2.2.1.cg (fun _ => rfl) (fun _ => rfl) (fun _ => rfl), ?_⟩
  · rw [c_sR_Ro (fun e => by have := (cx_inj hL.e23 e3 e).1; omega)]
    exact h.2.1.1 k hk
  · by_cases e : p' = p
    · subst e
      rw [xU_s, nt_nI (by omega)] at h1
      have h2 : q ≤ nt (X.1 1 p') := h2
      rw [c_sR_R, hg _ (by omega)]
      exact h.2.1.2.1 p' q hp' (by omega) h2
    · rw [xU_j _ _ e] at h1
      rw [c_sR_Ro (fun z => e (cx_inj (hL.e3 hp') e3 z).2)]
      exact h.2.1.2.1 p' q hp' h1 h2
  · intro k hk hs
    rw [c_sR_Ro (fun e => by have := (cx_inj hL.w e3 e).1; omega)]
    exact h.2.2.2.2.cg (Y := xU X 2 p (nI l)) (fun _ => rfl) k hk hs
/-- nothing new, and what others own is as it was -/
def c_sm (m : am_Mem) (G : cg_G) (m2 : am_Mem) : Prop := am_n m2 = am_n m ∧ am_u m2 = am_u m ∧ ∀ a, (co G a).1 = 0 → am_K m2 a = am_K m a ∧ am_L m2 a = am_L m a ∧ ∀ j, am_I m2 a j = am_I m a j ∧ am_J m2 a j = am_J m a j ∧ am_R m2 a j = am_R m a j
theorem c_sm.fr {m2 : am_Mem} (h : c_sm m G m2) : c_fr m G m2 G := ⟨by have := h.1; omega, by have := h.1; omega, by have := h.2.1; omega, rfl, fun a _ h0 => ⟨h0, h.2.2 a h0⟩⟩
theorem c_sm.sR {m2 : am_Mem} (h : c_sm m G m2) {t n : Nat} (he : cx G t n) (ht : ¬ t = 0) (g : Nat → Nat) : c_sm m G (c_sR m2 (ca G t n) g) := by
  refine ⟨h.1, h.2.1, fun a h0 => ⟨(h.2.2 a h0).1, (h.2.2 a h0).2.1, fun j => ⟨((h.2.2 a h0).2.2 j).1, ((h.2.2 a h0).2.2 j).2.1, ?_⟩⟩⟩
  rw [c_sR_Ro]
  · exact ((h.2.2 a h0).2.2 j).2.2
  · intro e
    subst e
    rw [show co G (ca G t n) = (t, n) from he] at h0
    exact ht h0
set_option maxHeartbeats 1000000 in
theorem y_trim (hI : INV m G X E P R N T) (hT : T + 100 ≤ 1000000) : am_W sc 33 0 [.ref (ca G 1 0), .retAddr 1, .retAddr 1] [] (cm m G X E) (y_Q ((x_trim X P R).2.1 0 2) (kdf ((x_trim X P R).2.1 0 2)) (.int (x_trim X P R).1) (y_POST m G (x_trim X P R).2 P R (T + 100))) := by
  unfold x_trim
  rw [← cm_th (X := X) (t := 0)]
  have h0 : (x_trN (x_th X 0) R P).2.1 0 2 = 0 := x_trN_o _ _ (by decide) _
  rw [h0]
  have hI0 := hI.th 0
  generalize x_th X 0 = Z at hI0 h0 ⊢
  have key : ∀ d p, p + d = P → ∀ mc, INV mc G (x_trN Z R p).2 E P R N T → c_sm m G mc → am_W sc 33 4 [.ref (ca G 1 0), .int (x_trN Z R p).1, .int (nI p)] [] (cm mc G (x_trN Z R p).2 E) (y_Q 0 (kdf 0) (.int (x_trN Z R P).1) (y_POST m G (x_trN Z R P).2 P R (T + 100))) := by
    intro d
    induction d with
    | zero =>
      intro p hp mc hI hm
      have e : P = p := by omega
      subst e
      have hL := hI.1
      have h1 := hL.2.1
      have hP := hL.2.2.2
      refine am_iload_n iX6_trim_4 rfl rfl ?_
      refine am_aload_n iX6_trim_5 rfl rfl ?_
      refine y_getR hL (by assumption) iX6_trim_6 fX6_trim_11 rfl rfl rfl (fun _ => ?_)
      refine y_alen (len := P) hL (by assumption) iX6_trim_9 rfl rfl rfl rfl ?_
      refine am_icmp_ge iX6_trim_10 (fun _ => ?_) (fun hc => absurd (nI_le (Nat.le_refl _) (by omega)) hc)
      refine am_iload_n iX6_trim_36 rfl rfl ?_
      exact am_iret iX6_trim_37 rfl ⟨⟨mc, G, E, N, rfl, hI.mono (by omega) hT, hm.fr⟩, Or.inl ⟨rfl, rfl⟩⟩
    | succ d ih =>
      intro p hp mc hI hm
      have hL := hI.1
      have h1 := hL.2.1
      have hP := hL.2.2.2
      have hpP : p < P := by omega
      refine am_iload_n iX6_trim_4 rfl rfl ?_
      refine am_aload_n iX6_trim_5 rfl rfl ?_
      refine y_getR hL (by assumption) iX6_trim_6 fX6_trim_11 rfl rfl rfl (fun _ => ?_)
      refine y_alen (len := P) hL (by assumption) iX6_trim_9 rfl rfl rfl rfl ?_
      refine am_icmp_ge iX6_trim_10 (fun hc => absurd hc (fun q => absurd ((nI_leI (by omega) (by omega)).mp q) (by omega))) (fun _ => ?_)
      refine am_iload_n iX6_trim_13 rfl rfl ?_
      refine am_aload_n iX6_trim_14 rfl rfl ?_
      refine y_getR hL (by assumption) iX6_trim_15 fX6_trim_11 rfl rfl rfl (fun _ => ?_)
      refine am_iload_n iX6_trim_18 rfl rfl ?_
      refine y_logs (p) hL (by assumption) iX6_trim_19 (by first | rfl | simp only [nI_add, pk_mul, nI_1, nL0, nL1, nL2, nL3, nL4, nL10, nL30, nL300, nL401]) (hpP) (fun _ => ?_)
      refine am_aload_n iX6_trim_20 rfl rfl ?_
      refine am_iload_n iX6_trim_21 rfl rfl ?_
      have h2p : cx G 2 p := by assumption
      refine am_cV1r iX6_trim_22 cX6_trim_133 mX6_leastKept (y_K hL (by assumption) rfl rfl) rfl rfl rfl (y_leastKept hL (show p < 3 by omega)) ?_
      obtain ⟨t, ht, htt, ht2⟩ := x_ix_ex (hI.2.2.1.2.1 p (by omega))
      obtain ⟨e, he, het, he2⟩ := x_ix_ex (hI.2.2.1.1.2.2.1 p (by omega))
      have hW := hI.2.2.1.1.2.2.2.1
      have h3 := hI.2.2.1.2.2.1
      obtain ⟨l, hl, l1, l2, l3⟩ := x_lst_le (X := (x_trN Z R p).2) (R := R) (p := p) (t := t) (fun r hr => ⟨_, (hW (4 + r) p (by omega) (by omega)).1.2, by have := (h3 r p hr (by omega)).1; omega, by have := (hW (4 + r) p (by omega) (by omega)).1.1; omega⟩) (by omega) R (Nat.le_refl _)
      have hle : l ≤ e := by
        have z1 := l3 0 (by omega)
        have z2 := (hW (4 + 0) p (by omega) (by omega)).2
        omega
      have ex : x_trN Z R (p + 1) = ((x_trN Z R p).1 + nI (l - t), xU (x_trN Z R p).2 2 p (nI l)) := by
        show ((x_trN Z R p).1 + (x_lst (x_trN Z R p).2 p R - (x_trN Z R p).2.1 2 p), xU (x_trN Z R p).2 2 p (x_lst (x_trN Z R p).2 p R)) = _
        rw [hl, ht2, pk_sub l1]
      rw [hl]
      refine am_eV1r iX6_trim_25 cX6_trim_136 mX1_dropTo (y_K hL (by assumption) rfl rfl) rfl rfl rfl (y_dropTo hL h2p ht2 he2 l1 hle (by omega)) ?_
      rintro m2 ⟨g, hg, rfl⟩
      refine am_iadd iX6_trim_28 ?_
      refine am_istore_n_1 iX6_trim_29 rfl rfl ?_
      refine am_iinc_2 1 iX6_trim_30 rfl rfl rfl ?_
      refine am_goto iX6_trim_33 ?_
      rw [nI_1]
      have := ih (p + 1) (by omega) (c_sR mc (ca G 3 p) g) (by rw [ex]; exact hI.drop hpP g hg l2 (by omega) l3) (hm.sR (hL.e3 hpP) (by decide) g)
      rw [ex] at this
      exact this
  refine am_iconst (i := 0) (v := 0) rfl iX6_trim_0 ?_
  refine am_istore_n_1 iX6_trim_1 rfl rfl ?_
  refine am_iconst (i := 0) (v := 0) rfl iX6_trim_2 ?_
  refine am_istore_n_2 iX6_trim_3 rfl rfl ?_
  exact key P 0 (by omega) m hI0 ⟨rfl, rfl, fun a _ => ⟨rfl, rfl, fun j => ⟨rfl, rfl, rfl⟩⟩⟩
set_option maxHeartbeats 1000000 in
theorem y_logged (hI : INV m G X E P R N T) (hrm : c_rm m) (hT : T + 100 ≤ 1000000) (p i w : Int32) : am_W sc 40 0 [.ref (ca G 1 0), .int p, .int i, .int w, .retAddr 1] [] (cm m G X E) (y_Q ((x_lgd X P p i w).2.1 0 2) (kdf ((x_lgd X P p i w).2.1 0 2)) (.int (x_lgd X P p i w).1) (y_POST m G (x_lgd X P p i w).2 P R (T + 100))) := by
  have hL := hI.1
  have h1 := hL.2.1
  have hP := hL.2.2.2
  unfold x_lgd
  refine am_iload_n iX6_logged_0 rfl rfl ?_
  refine am_aload_n iX6_logged_1 rfl rfl ?_
  refine y_getR hL (by assumption) iX6_logged_2 fX6_logged_11 rfl rfl rfl (fun _ => ?_)
  refine y_alen (len := P) hL (by assumption) iX6_logged_5 rfl rfl rfl rfl ?_
  cases hp : x_rg p 0 ((P : Int) - 1)
  · refine am_xS2 iX6_logged_6 cX6_logged_39 mX6_needIndex rfl rfl rfl (y_needIndex_x (m := cm m G X E) hrm p (by omega) hp) (am_out rfl ?_)
    exact y_thr hI (by omega) hT (t := 1) (by decide) 8 _
  · refine am_cS2v iX6_logged_6 cX6_logged_39 mX6_needIndex rfl rfl rfl (y_needIndex p (by omega) hp) ?_
    obtain ⟨j, hj, hjt, rfl⟩ := x_rg_ex P hp (by omega)
    rw [hjt]
    have w3 := hI.2.2.1.1.2.2.1 j (by omega)
    have w4 := hI.2.2.1.2.1 j (by omega)
    refine am_aload_n iX6_logged_9 rfl rfl ?_
    refine y_getR hL (by assumption) iX6_logged_10 fX6_logged_11 rfl rfl rfl (fun _ => ?_)
    refine am_iload_n iX6_logged_13 rfl rfl ?_
    refine y_logs (j) hL (by assumption) iX6_logged_14 (by first | rfl | simp only [nI_add, pk_mul, nI_1, nL0, nL1, nL2, nL3, nL4, nL10, nL30, nL300, nL401]) (hj) (fun _ => ?_)
    refine am_iload_n iX6_logged_15 rfl rfl ?_
    refine am_cV1r iX6_logged_16 cX6_logged_206 mX1_commandAt (y_K hL (by assumption) rfl rfl) rfl rfl rfl (y_commandAt hL (by assumption) w3 w4 (fun q q1 q2 => hI.2.1.2.1 j q hj q1 q2) i) ?_
    refine am_astore_4 iX6_logged_19 rfl rfl ?_
    refine am_aload iX6_logged_21 rfl ?_
    by_cases c : X.1 2 j < i ∧ i ≤ X.1 1 j
    · rw [if_pos c, decide_eq_true c]
      obtain ⟨t, ht, htt, ht2⟩ := x_ix_ex w4
      obtain ⟨e, he, het, he2⟩ := x_ix_ex w3
      obtain ⟨c1', c2'⟩ := c
      rw [ht2] at c1'
      rw [he2] at c2'
      have c3 : ¬ i < 0 := by
        rw [Int32.lt_iff_toInt_lt, nI_toInt (by omega)] at c1'
        rw [Int32.lt_iff_toInt_lt, Int32.toInt_zero]
        omega
      obtain ⟨q, hq, rfl⟩ := nI_of c3
      have c4 := (nI_leI (by omega) (by omega)).mp c2'
      have c5 := (nI_ltI (by omega) (by omega)).mp c1'
      rw [nt_nI hq]
      obtain ⟨d1, d2⟩ := hI.2.1.2.1 j q hj (by omega) (by omega)
      have hc0 := (y_0 hL d2 rfl).1
      refine am_ifnonnull iX6_logged_23 (fun _ => ?_) (fun hc => absurd hc (by omega))
      refine am_iload_n iX6_logged_36 rfl rfl ?_
      cases hw : x_rg w 0 6
      · have hw' := of_decide_eq_false hw
        refine am_tOut (q := 0) 128 iX6_logged_37 (by omega) (by decide) ?_
        refine am_throw tX6_logged_128 rfl iX6_logged_128 iX6_logged_131 iX6_logged_132 iX6_logged_134 iX6_logged_137 (Nat.le_of_ble_eq_true rfl) (Nat.le_of_ble_eq_true rfl) ?_ ?_ ?_
        · have := hrm.1; show am_n m + 1 ≤ _; omega
        · have := hrm.2; show am_u m + 6 ≤ _; omega
        · exact y_thr hI (by omega) hT (t := 1) (by decide) 8 _
      · obtain ⟨v, hv, hvt, rfl⟩ := x_rg_ex 7 hw (by omega)
        rw [if_pos (show (true && (true && true)) = true from rfl), hvt]
        rcases (show v = 0 ∨ v = 1 ∨ v = 2 ∨ v = 3 ∨ v = 4 ∨ v = 5 ∨ v = 6 by omega) with rfl | rfl | rfl | rfl | rfl | rfl | rfl
        · refine am_tIn (q := 0) (off := 43) 80 iX6_logged_37 (by decide) (by decide) (by decide) (by decide) ?_
          rw [if_pos (show nI 0 = 0 by decide)]
          refine am_aload iX6_logged_80 rfl ?_
          refine y_getI (o := 3) hL (by assumption) iX6_logged_82 fX6_logged_212 rfl rfl rfl rfl ?_
          rw [← cm_th (X := X) (t := 0)]
          exact am_iret iX6_logged_85 rfl ⟨y_ok1 (hI.th 0) (by omega) hT, Or.inl ⟨rfl, rfl⟩⟩
        · refine am_tIn (q := 0) (off := 49) 86 iX6_logged_37 (by decide) (by decide) (by decide) (by decide) ?_
          rw [if_neg (show ¬ nI 1 = 0 by decide), if_pos (show nI 1 = 1 by decide)]
          refine am_aload iX6_logged_86 rfl ?_
          refine y_getI (o := 4) hL (by assumption) iX6_logged_88 fX6_logged_215 rfl rfl rfl rfl ?_
          rw [← cm_th (X := X) (t := 0)]
          exact am_iret iX6_logged_91 rfl ⟨y_ok1 (hI.th 0) (by omega) hT, Or.inl ⟨rfl, rfl⟩⟩
        · refine am_tIn (q := 0) (off := 55) 92 iX6_logged_37 (by decide) (by decide) (by decide) (by decide) ?_
          rw [if_neg (show ¬ nI 2 = 0 by decide), if_neg (show ¬ nI 2 = 1 by decide), if_pos (show nI 2 = 2 by decide)]
          refine am_aload iX6_logged_92 rfl ?_
          refine y_getI (o := 5) hL (by assumption) iX6_logged_94 fX6_logged_218 rfl rfl rfl rfl ?_
          rw [← cm_th (X := X) (t := 0)]
          exact am_iret iX6_logged_97 rfl ⟨y_ok1 (hI.th 0) (by omega) hT, Or.inl ⟨rfl, rfl⟩⟩
        · refine am_tIn (q := 0) (off := 61) 98 iX6_logged_37 (by decide) (by decide) (by decide) (by decide) ?_
          rw [if_neg (show ¬ nI 3 = 0 by decide), if_neg (show ¬ nI 3 = 1 by decide), if_neg (show ¬ nI 3 = 2 by decide), if_pos (show nI 3 = 3 by decide)]
          refine am_aload iX6_logged_98 rfl ?_
          refine y_getI (o := 6) hL (by assumption) iX6_logged_100 fX6_logged_221 rfl rfl rfl rfl ?_
          rw [← cm_th (X := X) (t := 0)]
          exact am_iret iX6_logged_103 rfl ⟨y_ok1 (hI.th 0) (by omega) hT, Or.inl ⟨rfl, rfl⟩⟩
        · refine am_tIn (q := 0) (off := 67) 104 iX6_logged_37 (by decide) (by decide) (by decide) (by decide) ?_
          rw [if_neg (show ¬ nI 4 = 0 by decide), if_neg (show ¬ nI 4 = 1 by decide), if_neg (show ¬ nI 4 = 2 by decide), if_neg (show ¬ nI 4 = 3 by decide)]
          refine am_aload iX6_logged_104 rfl ?_
          refine y_getR hL (by assumption) iX6_logged_106 fX6_logged_224 rfl rfl rfl (fun _ => ?_)
          refine am_iconst (i := 0) (v := 0) rfl iX6_logged_109 ?_
          refine y_iald (0) hL (by assumption) iX6_logged_110 (by first | rfl | simp only [nI_add, pk_mul, nI_1, nL0, nL1, nL2, nL3, nL4, nL10, nL30, nL300, nL401]) ((by decide)) rfl rfl rfl rfl ?_
          rw [← cm_th (X := X) (t := 0)]
          exact am_iret iX6_logged_111 rfl ⟨y_ok1 (hI.th 0) (by omega) hT, Or.inl ⟨rfl, rfl⟩⟩
        · refine am_tIn (q := 0) (off := 75) 112 iX6_logged_37 (by decide) (by decide) (by decide) (by decide) ?_
          rw [if_neg (show ¬ nI 5 = 0 by decide), if_neg (show ¬ nI 5 = 1 by decide), if_neg (show ¬ nI 5 = 2 by decide), if_neg (show ¬ nI 5 = 3 by decide)]
          refine am_aload iX6_logged_112 rfl ?_
          refine y_getR hL (by assumption) iX6_logged_114 fX6_logged_224 rfl rfl rfl (fun _ => ?_)
          refine am_iconst (i := 1) (v := 1) rfl iX6_logged_117 ?_
          refine y_iald (1) hL (by assumption) iX6_logged_118 (by first | rfl | simp only [nI_add, pk_mul, nI_1, nL0, nL1, nL2, nL3, nL4, nL10, nL30, nL300, nL401]) ((by decide)) rfl rfl rfl rfl ?_
          rw [← cm_th (X := X) (t := 0)]
          exact am_iret iX6_logged_119 rfl ⟨y_ok1 (hI.th 0) (by omega) hT, Or.inl ⟨rfl, rfl⟩⟩
        · refine am_tIn (q := 0) (off := 83) 120 iX6_logged_37 (by decide) (by decide) (by decide) (by decide) ?_
          rw [if_neg (show ¬ nI 6 = 0 by decide), if_neg (show ¬ nI 6 = 1 by decide), if_neg (show ¬ nI 6 = 2 by decide), if_neg (show ¬ nI 6 = 3 by decide)]
          refine am_aload iX6_logged_120 rfl ?_
          refine y_getR hL (by assumption) iX6_logged_122 fX6_logged_224 rfl rfl rfl (fun _ => ?_)
          refine am_iconst (i := 2) (v := 2) rfl iX6_logged_125 ?_
          refine y_iald (2) hL (by assumption) iX6_logged_126 (by first | rfl | simp only [nI_add, pk_mul, nI_1, nL0, nL1, nL2, nL3, nL4, nL10, nL30, nL300, nL401]) ((by decide)) rfl rfl rfl rfl ?_
          rw [← cm_th (X := X) (t := 0)]
          exact am_iret iX6_logged_127 rfl ⟨y_ok1 (hI.th 0) (by omega) hT, Or.inl ⟨rfl, rfl⟩⟩
    · rw [if_neg c, decide_eq_false c, Bool.and_false]
      refine am_ifnonnull iX6_logged_23 (fun hc => absurd (rfl) hc) (fun _ => ?_)
      refine am_throw tX6_logged_26 rfl iX6_logged_26 iX6_logged_29 iX6_logged_30 iX6_logged_32 iX6_logged_35 (Nat.le_of_ble_eq_true rfl) (Nat.le_of_ble_eq_true rfl) ?_ ?_ ?_
      · have := hrm.1; show am_n m + 1 ≤ _; omega
      · have := hrm.2; show am_u m + 6 ≤ _; omega
      · exact y_thr hI (by omega) hT (t := 1) (by decide) 8 _
end
