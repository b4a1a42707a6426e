/-! the class: command -/
section
variable {sc : Nat × (Nat → Int32)} {m m2 : am_Mem} {G : cg_G} {X E : ms_X} {P R N T : Nat}
/-- one new array of three ints -/
def c_n3 (m m2 : am_Mem) : Prop := c_up m m2 ∧ am_n m2 = am_n m + 1 ∧ am_u m2 = am_u m + 3 ∧ am_K m2 (am_n m + 1) = 11 ∧ am_L m2 (am_n m + 1) = 3
theorem c_n3.setI (h : c_n3 m m2) (j : Nat) (v : Int32) : c_n3 m (am_setI m2 (am_n m + 1) j v) := ⟨h.1.setI (Nat.lt_succ_self _) j v, h.2⟩
set_option maxHeartbeats 1000000 in
theorem y_needsNow (hL0 : LC m G P R) (hrm : c_rm m) {s : Nat} (hs : cx G 14 s) : am_W sc 10 0 [.ref (ca G 14 s), .retAddr 1, .retAddr 1] [] (cm m G X E) (am_RE (some (.ref (am_n m + 1))) (fun m' => ∃ m2, m' = cm m2 G X E ∧ c_n3 m m2 ∧ ∀ j, j < 3 → am_I m2 (am_n m + 1) j = x_nd X s j)) := by
  have a0 : (co G (am_n m + 1)).1 = 0 := hL0.n0 (Nat.lt_succ_self _)
  have key : ∀ d q, q + d = 3 → ∀ m2, c_n3 m m2 → (∀ j, j < q → am_I m2 (am_n m + 1) j = x_nd X s j) → (∀ j, q ≤ j → am_I m2 (am_n m + 1) j = 0) → am_W sc 10 6 [.ref (ca G 14 s), .ref (am_n m + 1), .int (nI q)] [] (cm m2 G X E) (am_RE (some (.ref (am_n m + 1))) (fun m' => ∃ m2, m' = cm m2 G X E ∧ c_n3 m m2 ∧ ∀ j, j < 3 → am_I m2 (am_n m + 1) j = x_nd X s j)) := by
    intro d
    induction d with
    | zero =>
      intro q hq m2 h3 hlo hhi
      have e : q = 3 := by omega
      subst e
      refine am_iload_n iX4_needsNow_6 rfl rfl ?_
      refine am_iconst (i := 3) (v := 3) rfl iX4_needsNow_7 ?_
      refine am_icmp_ge iX4_needsNow_8 (fun _ => ?_) (fun hc => absurd (by decide) hc)
      refine am_aload_n iX4_needsNow_60 rfl rfl ?_
      exact am_aret iX4_needsNow_61 rfl (Or.inr ⟨_, rfl⟩) ⟨rfl, m2, rfl, h3, hlo⟩
    | succ d ih =>
      intro q hq m2 h3 hlo hhi
      have hq3 : q < 3 := by omega
      have fin : ∀ m3, c_n3 m m3 → (∀ j, j < q → am_I m3 (am_n m + 1) j = x_nd X s j) → am_I m3 (am_n m + 1) q = (if X.1 19 s &&& 4 = 0 then 0 else X.1 22 (3 * s + q)) → (∀ j, q + 1 ≤ j → am_I m3 (am_n m + 1) j = 0) → am_W sc 10 29 [.ref (ca G 14 s), .ref (am_n m + 1), .int (nI q)] [] (cm m3 G X E) (am_RE (some (.ref (am_n m + 1))) (fun m' => ∃ m2, m' = cm m2 G X E ∧ c_n3 m m2 ∧ ∀ j, j < 3 → am_I m2 (am_n m + 1) j = x_nd X s j)) := by
        intro m3 g3 glo gq ghi
        have hL := hL0.up g3.1
        have nd : x_nd X s q = (if X.1 19 s &&& 8 = 0 then am_I m3 (am_n m + 1) q else if am_I m3 (am_n m + 1) q ≤ X.1 21 (3 * s + q) then X.1 21 (3 * s + q) else am_I m3 (am_n m + 1) q) := by
          rw [gq]
          rfl
        refine am_aload_n iX4_needsNow_29 rfl rfl ?_
        refine y_getI (o := 19) hL (by assumption) iX4_needsNow_30 fX4_needsNow_18 rfl rfl rfl rfl ?_
        refine am_bipush (i := 8) (v := 8) rfl iX4_needsNow_33 ?_
        refine am_iand iX4_needsNow_35 ?_
        refine am_if_eq iX4_needsNow_36 (fun c2 => ?_) (fun c2 => ?_)
        · refine am_iinc_2 1 iX4_needsNow_54 rfl rfl rfl ?_
          refine am_goto iX4_needsNow_57 ?_
          rw [nI_1]
          refine ih (q + 1) (by omega) m3 g3 (fun j hj => ?_) ghi
          by_cases c : j = q
          · subst c
            rw [nd, if_pos c2]
          · exact glo j (by omega)
        · refine am_aload_n iX4_needsNow_39 rfl rfl ?_
          refine am_iload_n iX4_needsNow_40 rfl rfl ?_
          refine am_aload_n iX4_needsNow_41 rfl rfl ?_
          refine am_iload_n iX4_needsNow_42 rfl rfl ?_
          refine am_iald iX4_needsNow_43 (show am_K m3 (am_n m + 1) = 11 from g3.2.2.2.1) (by show vp_in (nI q) (am_L m3 (am_n m + 1)); rw [g3.2.2.2.2]; exact vp_in_nI hq3 (by decide)) ?_
          rw [nI_clamp (by omega), cm_Iu a0]
          refine am_aload_n iX4_needsNow_44 rfl rfl ?_
          refine y_getR hL (by assumption) iX4_needsNow_45 fX4_needsNow_9 rfl rfl rfl (fun _ => ?_)
          refine am_iload_n iX4_needsNow_48 rfl rfl ?_
          refine y_iald (q) hL (by assumption) iX4_needsNow_49 (by first | rfl | simp only [nI_add, pk_mul, nI_1, nL0, nL1, nL2, nL3, nL4, nL10, nL30, nL300, nL401]) (hq3) rfl rfl rfl rfl ?_
          refine am_mmax iX4_needsNow_50 wd_334 wd_298 wd_12 g_mx3 (Nat.le_of_ble_eq_true rfl) (Nat.le_of_ble_eq_true rfl) ?_
          rw [mx_eq]
          rw [if_neg c2] at nd
          rw [← nd]
          refine am_iast iX4_needsNow_53 (show am_K m3 (am_n m + 1) = 11 from g3.2.2.2.1) (by show vp_in (nI q) (am_L m3 (am_n m + 1)); rw [g3.2.2.2.2]; exact vp_in_nI hq3 (by decide)) ?_
          rw [nI_clamp (by omega), cm_setIu a0]
          refine am_iinc_2 1 iX4_needsNow_54 rfl rfl rfl ?_
          refine am_goto iX4_needsNow_57 ?_
          rw [nI_1]
          refine ih (q + 1) (by omega) _ (g3.setI q _) (fun j hj => ?_) (fun j hj => (if_neg (fun z => by have := z.2; omega)).trans (ghi j hj))
          by_cases c : j = q
          · subst c
            exact if_pos ⟨rfl, rfl⟩
          · exact (if_neg (fun z => c z.2)).trans (glo j (by omega))
      have hL := hL0.up h3.1
      refine am_iload_n iX4_needsNow_6 rfl rfl ?_
      refine am_iconst (i := 3) (v := 3) rfl iX4_needsNow_7 ?_
      refine am_icmp_ge iX4_needsNow_8 (fun hc => absurd hc (fun z => absurd ((nI_leI (a := 3) (b := q) (by omega) (by omega)).mp z) (by omega))) (fun _ => ?_)
      refine am_aload_n iX4_needsNow_11 rfl rfl ?_
      refine y_getI (o := 19) hL (by assumption) iX4_needsNow_12 fX4_needsNow_18 rfl rfl rfl rfl ?_
      refine am_iconst (i := 4) (v := 4) rfl iX4_needsNow_15 ?_
      refine am_iand iX4_needsNow_16 ?_
      refine am_if_eq iX4_needsNow_17 (fun c1 => ?_) (fun c1 => ?_)
      · exact fin m2 h3 hlo (by rw [if_pos c1]; exact hhi q (Nat.le_refl _)) (fun j hj => hhi j (by omega))
      · refine am_aload_n iX4_needsNow_20 rfl rfl ?_
        refine am_iload_n iX4_needsNow_21 rfl rfl ?_
        refine am_aload_n iX4_needsNow_22 rfl rfl ?_
        refine y_getR hL (by assumption) iX4_needsNow_23 fX4_needsNow_15 rfl rfl rfl (fun _ => ?_)
        refine am_iload_n iX4_needsNow_26 rfl rfl ?_
        refine y_iald (q) hL (by assumption) iX4_needsNow_27 (by first | rfl | simp only [nI_add, pk_mul, nI_1, nL0, nL1, nL2, nL3, nL4, nL10, nL30, nL300, nL401]) (hq3) rfl rfl rfl rfl ?_
        refine am_iast iX4_needsNow_28 (show am_K m2 (am_n m + 1) = 11 from h3.2.2.2.1) (by show vp_in (nI q) (am_L m2 (am_n m + 1)); rw [h3.2.2.2.2]; exact vp_in_nI hq3 (by decide)) ?_
        rw [nI_clamp (by omega), cm_setIu a0]
        exact fin _ (h3.setI q _) (fun j hj => (if_neg (fun z => by have := z.2; omega)).trans (hlo j hj)) ((if_pos ⟨rfl, rfl⟩).trans (if_neg c1).symm) (fun j hj => (if_neg (fun z => by have := z.2; omega)).trans (hhi j (by omega)))
  refine am_iconst (i := 3) (v := 3) rfl iX4_needsNow_0 ?_
  refine am_newaI (N := 3) iX4_needsNow_1 wd_81 (by decide) (by decide) (by decide) (by have := hrm.1; show am_n m + 1 ≤ _; omega) (by have := hrm.2; show am_u m + 3 ≤ _; omega) ?_
  rw [cm_nw hL0]
  refine am_astore_n_1 iX4_needsNow_3 rfl rfl ?_
  refine am_iconst (i := 0) (v := 0) rfl iX4_needsNow_4 ?_
  refine am_istore_n_2 iX4_needsNow_5 rfl rfl ?_
  refine key 3 0 rfl (am_new m 11 3 3) ⟨c_up.new m 11 3 3, rfl, rfl, if_pos rfl, if_pos rfl⟩ (fun j hj => by omega) (fun j _ => if_pos rfl)
def c_C (m : am_Mem) (a : Nat) (kd it cu am : Int32) (b : Nat) : am_Mem := am_setR (am_setI (am_setI (am_setI (am_setI m a 0 kd) a 1 it) a 2 cu) a 3 am) a 4 b
theorem y_Cmd {a b : Nat} {kd it cu am : Int32} (ha : (co G a).1 = 0) (hk : am_K m a = 0) (h0 : ¬ a = 0) : am_W sc 0 0 [.ref a, .int kd, .int it, .int cu, .int am, .ref b] [] (cm m G X E) (am_R1 none (cm (c_C m a kd it cu am b) G X E)) := by
  have e : cm (c_C m a kd it cu am b) G X E = am_setR (am_setI (am_setI (am_setI (am_setI (cm m G X E) a 0 kd) a 1 it) a 2 cu) a 3 am) a 4 b := by
    rw [cm_setIu ha, cm_setIu ha, cm_setIu ha, cm_setIu ha]
    rfl
  rw [e]
  have hk : am_K (cm m G X E) a = 0 := hk
  generalize cm m G X E = M at hk ⊢
  refine am_aload_n iX0_init_0 rfl rfl ?_
  refine am_oinit iX0_init_1 wd_380 wd_23 g_oi2 (Nat.le_of_ble_eq_true rfl) (Nat.le_of_ble_eq_true rfl) (h0) ?_
  refine am_aload_n iX0_init_4 rfl rfl ?_
  refine am_iload_n iX0_init_5 rfl rfl ?_
  refine am_putI iX0_init_6 fX0_init_7 (by decide +kernel) hk rfl ?_
  refine am_aload_n iX0_init_9 rfl rfl ?_
  refine am_iload_n iX0_init_10 rfl rfl ?_
  refine am_putI iX0_init_11 fX0_init_13 (by decide +kernel) hk rfl ?_
  refine am_aload_n iX0_init_14 rfl rfl ?_
  refine am_iload_n iX0_init_15 rfl rfl ?_
  refine am_putI iX0_init_16 fX0_init_16 (by decide +kernel) hk rfl ?_
  refine am_aload_n iX0_init_19 rfl rfl ?_
  refine am_iload iX0_init_20 rfl ?_
  refine am_putI iX0_init_22 fX0_init_19 (by decide +kernel) hk rfl ?_
  refine am_aload_n iX0_init_25 rfl rfl ?_
  refine am_aload iX0_init_26 rfl ?_
  refine am_putR iX0_init_28 fX0_init_22 (by decide +kernel) hk ?_
  exact am_vret iX0_init_31 rfl (⟨rfl, rfl⟩)
theorem y_append (hL : LC m G P R) {p c e : Nat} (hp : cx G 2 p) (hc : am_K m c = 0) (he : X.1 1 p = nI e) (he4 : e < 400) : am_W sc 3 0 [.ref (ca G 2 p), .ref c] [] (cm m G X E) (am_R1 none (cm (c_sR m (ca G 3 p) (fun i => if i = e then c else am_R m (ca G 3 p) i)) G (xU X 1 p (nI (e + 1))) E)) := by
  have hL0 := hL
  refine am_aload_n iX1_append_0 rfl rfl ?_
  refine y_getI (o := 1) hL (by assumption) iX1_append_1 fX1_append_21 rfl rfl rfl rfl ?_
  refine am_aload_n iX1_append_4 rfl rfl ?_
  refine y_getR hL (by assumption) iX1_append_5 fX1_append_11 rfl rfl rfl (fun _ => ?_)
  refine y_alen (len := 400) hL (by assumption) iX1_append_8 rfl rfl rfl rfl ?_
  rw [he]
  refine am_icmp_ge iX1_append_9 (fun hc => absurd hc (fun z => absurd ((nI_leI (a := 400) (b := e) (by omega) (by omega)).mp z) (by omega))) (fun _ => ?_)
  refine am_aload_n iX1_append_12 rfl rfl ?_
  refine y_getR hL (by assumption) iX1_append_13 fX1_append_11 rfl rfl rfl (fun _ => ?_)
  refine am_aload_n iX1_append_16 rfl rfl ?_
  refine y_getI (o := 1) hL (by assumption) iX1_append_17 fX1_append_21 rfl rfl rfl rfl ?_
  rw [he]
  refine am_aload_n iX1_append_20 rfl rfl ?_
  have hc3 : cx G 3 p := by assumption
  refine am_aast (ci := 0) iX1_append_21 (y_K hL hc3 rfl rfl) (by decide) (Or.inr hc) (by rw [y_L hL hc3 rfl]; exact vp_in_nI (N := 400) (by omega) (by decide)) ?_
  rw [nI_clamp (by omega)]
  have e1 : am_setR (cm m G X E) (ca G 3 p) e c = cm (c_sR m (ca G 3 p) (fun i => if i = e then c else am_R m (ca G 3 p) i)) G X E := by
    have := c_sR_set (m := m) (a := ca G 3 p) (j := e) (v := c) (g := am_R m (ca G 3 p)) (G := G) (X := X) (E := E)
    rw [c_sR_id] at this
    exact this
  rw [e1]
  have hL := hL0.sRg hc3 (fun _ => rfl) (fun i => if i = e then c else am_R m (ca G 3 p) i)
  refine am_aload_n iX1_append_22 rfl rfl ?_
  refine am_dup iX1_append_23 rfl ?_
  refine y_getI (o := 1) hL (by assumption) iX1_append_24 fX1_append_21 rfl rfl rfl rfl ?_
  refine am_iconst (i := 1) (v := 1) rfl iX1_append_27 ?_
  refine am_iadd iX1_append_28 ?_
  refine y_putI (o := 1) hL (by assumption) iX1_append_29 fX1_append_21 rfl rfl rfl rfl rfl rfl ?_
  rw [he, nI_1]
  exact am_vret iX1_append_32 rfl (⟨rfl, rfl⟩)
theorem y_withPos {a p : Nat} {v : Int32} (hp : p < 3) (hk : am_K m a = 11) (hl : am_L m a = 3) (hc : am_n m + 1 ≤ am_CM) (hs : am_u m + 3 ≤ am_SM) : am_W sc 51 0 [.ref a, .int (nI p), .int v, .retAddr 1] [] m (am_R1 (some (.ref (am_n m + 1))) (am_setI (am_rowI (am_new m 11 3 3) (am_n m + 1) (am_I m a)) (am_n m + 1) p (if am_I m a p < v then v else am_I m a p))) := by
  refine am_aload_n iX6_withPosition_0 rfl rfl ?_
  refine am_clone iX6_withPosition_1 wd_413 wd_414 wd_415 wd_416 wd_417 wd_418 (hk) (Nat.le_of_ble_eq_true rfl) (Nat.le_of_ble_eq_true rfl) (hc) (by rw [hl]; exact hs) ?_
  rw [hl]
  have hk2 : am_K (am_rowI (am_new m 11 3 3) (am_n m + 1) (am_I m a)) (am_n m + 1) = 11 := if_pos rfl
  have hl2 : am_L (am_rowI (am_new m 11 3 3) (am_n m + 1) (am_I m a)) (am_n m + 1) = 3 := if_pos rfl
  have hi2 : am_I (am_rowI (am_new m 11 3 3) (am_n m + 1) (am_I m a)) (am_n m + 1) p = am_I m a p := if_pos rfl
  generalize am_rowI (am_new m 11 3 3) (am_n m + 1) (am_I m a) = M at hk2 hl2 hi2 ⊢
  refine am_castI iX6_withPosition_4 wd_419 (hk2) ?_
  refine am_astore_n_3 iX6_withPosition_7 rfl rfl ?_
  refine am_aload_n iX6_withPosition_8 rfl rfl ?_
  refine am_iload_n iX6_withPosition_9 rfl rfl ?_
  refine am_aload_n iX6_withPosition_10 rfl rfl ?_
  refine am_iload_n iX6_withPosition_11 rfl rfl ?_
  refine am_iald iX6_withPosition_12 hk2 (by rw [hl2]; exact vp_in_nI hp (by decide)) ?_
  rw [nI_clamp (by omega), hi2]
  refine am_iload_n iX6_withPosition_13 rfl rfl ?_
  refine am_mmax iX6_withPosition_14 wd_297 wd_298 wd_12 g_mx3 (Nat.le_of_ble_eq_true rfl) (Nat.le_of_ble_eq_true rfl) ?_
  refine am_iast iX6_withPosition_17 hk2 (by rw [hl2]; exact vp_in_nI hp (by decide)) ?_
  rw [nI_clamp (by omega)]
  refine am_aload_n iX6_withPosition_18 rfl rfl ?_
  exact am_aret iX6_withPosition_19 rfl (Or.inr ⟨_, rfl⟩) ⟨rfl, rfl⟩
end
