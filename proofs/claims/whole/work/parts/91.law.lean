/-! the law -/
section
variable {sc : Nat × (Nat → Int32)} {m mm : am_Mem} {X : ms_X} {P R N T M O C : Nat}
def cel (sc : Nat × (Nat → Int32)) (k : Nat) : Int32 := if k < sc.1 then sc.2 k else 0
theorem l_cell (hL : sc.1 ≤ 4098) {k : Nat} (hk : k < 2) : am_W sc 111 0 [.retAddr 0, .int (nI k)] [] m (am_R1 (some (.int (cel sc k))) m) := by
  refine am_iload_n iL_cell_0 rfl rfl ?_
  refine am_sload_n iL_cell_1 rfl rfl ?_
  refine am_slen iL_cell_2 ?_
  unfold cel
  by_cases h : k < sc.1
  · rw [if_pos h]
    refine am_icmp_ge iL_cell_3 (fun hc => absurd hc (fun q => absurd ((nI_leI (by omega) (by omega)).mp q) (by omega))) (fun _ => ?_)
    refine am_sload_n iL_cell_6 rfl rfl ?_
    refine am_iload_n iL_cell_7 rfl rfl ?_
    refine am_sld iL_cell_8 (vp_in_nI h (by omega)) ?_
    rw [nI_clamp (by omega)]
    refine am_goto iL_cell_9 ?_
    exact am_iret iL_cell_13 rfl (⟨rfl, rfl⟩)
  · rw [if_neg h]
    refine am_icmp_ge iL_cell_3 (fun _ => ?_) (fun hc => absurd (nI_le (by omega) (by omega)) hc)
    refine am_iconst (i := 0) (v := 0) rfl iL_cell_12 ?_
    exact am_iret iL_cell_13 rfl (⟨rfl, rfl⟩)
theorem sub8 {L i : Nat} (hL : L ≤ 4098) (hi : i < 10000) : nI L - 8 < nI i ↔ L < i + 8 := by
  by_cases h : 8 ≤ L
  · have e : nI L - 8 = nI (L - 8) := pk_sub (a := L) (b := 8) h
    rw [e, nI_ltI (by omega) (by omega)]
    omega
  · have hn : (nI L - 8).toInt < 0 := by
      rcases (show L = 0 ∨ L = 1 ∨ L = 2 ∨ L = 3 ∨ L = 4 ∨ L = 5 ∨ L = 6 ∨ L = 7 by omega) with rfl | rfl | rfl | rfl | rfl | rfl | rfl | rfl
      all_goals decide
    rw [Int32.lt_iff_toInt_lt, nI_toInt (by omega)]
    omega
theorem law_loop (hL : sc.1 ≤ 4098) : ∀ (n C : Nat) (mm : am_Mem) (X : ms_X) (N : Nat) (w5 w6 w7 : Value), C + n = 513 → SVN mm M O X P R N (100 * C) C → am_W sc 131 43 [.retAddr 0, .ref 1, .ref M, .ref O, .int (nI (2 + 8 * C)), w5, w6, w7] [] mm (fun o _ => o = .inl (some (.int 1))) := by
  intro n
  induction n with
  | zero =>
    intro C mm X N w5 w6 w7 hn hS
    refine am_iload iL_law_43 rfl ?_
    refine am_sload_n iL_law_45 rfl rfl ?_
    refine am_slen iL_law_46 ?_
    refine am_bipush (i := 8) (v := 8) rfl iL_law_47 ?_
    refine am_isub iL_law_49 ?_
    refine am_icmp_gt iL_law_50 (fun _ => ?_) (fun hc => absurd ((sub8 hL (by omega)).mpr (by omega)) hc)
    refine am_iconst (i := 1) (v := 1) rfl iL_law_1627 ?_
    exact am_zret iL_law_1628 rfl (Or.inr rfl) rfl
  | succ n ih =>
    intro C mm X N w5 w6 w7 hn hS
    refine am_iload iL_law_43 rfl ?_
    refine am_sload_n iL_law_45 rfl rfl ?_
    refine am_slen iL_law_46 ?_
    refine am_bipush (i := 8) (v := 8) rfl iL_law_47 ?_
    refine am_isub iL_law_49 ?_
    by_cases c : 2 + 8 * C + 8 ≤ sc.1
    · refine am_icmp_gt iL_law_50 (fun hc => absurd hc (fun q => absurd ((sub8 hL (by omega)).mp q) (by omega))) (fun _ => ?_)
      have hC : C ≤ 512 := by omega
      have hT : 100 * C + 100 ≤ 1000000 := by omega
      have hx : ∀ k, k < 8 → vp_in (nI (2 + 8 * C + k)) sc.1 := fun k hk => vp_in_nI (by omega) (by omega)
      have hx0 : vp_in (nI (2 + 8 * C)) sc.1 := hx 0 (by omega)
      have hy : ∀ k, k < 8 → vp_in (nI (2 + 8 * C) + nI k) sc.1 := fun k hk => by rw [nI_add]; exact hx k hk
      have hx1 : vp_in (nI (2 + 8 * C) + 1) sc.1 := hy 1 (by omega)
      have hx2 : vp_in (nI (2 + 8 * C) + 2) sc.1 := hy 2 (by omega)
      have hx3 : vp_in (nI (2 + 8 * C) + 3) sc.1 := hy 3 (by omega)
      have hx4 : vp_in (nI (2 + 8 * C) + 4) sc.1 := hy 4 (by omega)
      have hx5 : vp_in (nI (2 + 8 * C) + 5) sc.1 := hy 5 (by omega)
      have hx6 : vp_in (nI (2 + 8 * C) + 6) sc.1 := hy 6 (by omega)
      have hx7 : vp_in (nI (2 + 8 * C) + 7) sc.1 := hy 7 (by omega)
      have nx : ∀ (mm' : am_Mem) (X' : ms_X) (N' : Nat) (w5 w6 w7 : Value), SVN mm' M O X' P R N' (100 * C + 100) (C + 1) → am_W sc 131 1621 [.retAddr 0, .ref 1, .ref M, .ref O, .int (nI (2 + 8 * C)), w5, w6, w7] [] mm' (fun o _ => o = .inl (some (.int 1))) := by
        intro mm' X' N' w5 w6 w7 hS'
        refine am_iinc_4 8 iL_law_1621 rfl rfl rfl ?_
        refine am_goto iL_law_1624 ?_
        have e : nI (2 + 8 * C) + 8 = nI (2 + 8 * (C + 1)) := by
          have : nI (2 + 8 * C) + nI 8 = nI (2 + 8 * C + 8) := nI_add _ _
          exact this
        rw [e]
        exact ih (C + 1) mm' X' N' w5 w6 w7 (by omega) hS'
      refine am_sload_n iL_law_53 rfl rfl ?_
      refine am_iload iL_law_54 rfl ?_
      refine am_sld iL_law_56 hx0 ?_
      refine am_bipush (i := 31) (v := 31) rfl iL_law_57 ?_
      refine am_iand iL_law_59 ?_
      generalize sc.2 (nI (2 + 8 * C)).toNatClampNeg &&& 31 = v
      cases hv : x_rg v 0 19
      · have hv' := of_decide_eq_false hv
        refine am_tOut (q := 0) 1621 iL_law_60 (by omega) (by decide) ?_
        exact nx mm X N w5 w6 w7 (hS.mono hT)
      · obtain ⟨j, hj, -, rfl⟩ := x_rg_ex 20 hv (by omega)
        rcases (show j = 0 ∨ j = 1 ∨ j = 2 ∨ j = 3 ∨ j = 4 ∨ j = 5 ∨ j = 6 ∨ j = 7 ∨ j = 8 ∨ j = 9 ∨ j = 10 ∨ j = 11 ∨ j = 12 ∨ j = 13 ∨ j = 14 ∨ j = 15 ∨ j = 16 ∨ j = 17 ∨ j = 18 ∨ j = 19 by omega) with rfl | rfl | rfl | rfl | rfl | rfl | rfl | rfl | rfl | rfl | rfl | rfl | rfl | rfl | rfl | rfl | rfl | rfl | rfl | rfl
        · refine am_tIn (q := 0) (off := 96) 156 iL_law_60 (by decide) (by decide) (by decide) (by decide) ?_
          exact law_c0 hS hC hT hx1 hx2 hx3 hx4 hx5 hx6 hx7 nx
        · refine am_tIn (q := 0) (off := 164) 224 iL_law_60 (by decide) (by decide) (by decide) (by decide) ?_
          exact law_c1 hS hC hT hx1 hx2 hx3 hx4 hx5 hx6 hx7 nx
        · refine am_tIn (q := 0) (off := 232) 292 iL_law_60 (by decide) (by decide) (by decide) (by decide) ?_
          exact law_c2 hS hC hT hx1 hx2 hx3 hx4 hx5 hx6 hx7 nx
        · refine am_tIn (q := 0) (off := 335) 395 iL_law_60 (by decide) (by decide) (by decide) (by decide) ?_
          exact law_c3 hS hC hT hx1 hx2 hx3 hx4 hx5 hx6 hx7 nx
        · refine am_tIn (q := 0) (off := 403) 463 iL_law_60 (by decide) (by decide) (by decide) (by decide) ?_
          exact law_c4 hS hC hT hx1 hx2 hx3 hx4 hx5 hx6 hx7 nx
        · refine am_tIn (q := 0) (off := 471) 531 iL_law_60 (by decide) (by decide) (by decide) (by decide) ?_
          exact law_c5 hS hC hT hx1 hx2 hx3 hx4 hx5 hx6 hx7 nx
        · refine am_tIn (q := 0) (off := 527) 587 iL_law_60 (by decide) (by decide) (by decide) (by decide) ?_
          exact law_c6 hS hC hT hx1 hx2 hx3 hx4 hx5 hx6 hx7 nx
        · refine am_tIn (q := 0) (off := 618) 678 iL_law_60 (by decide) (by decide) (by decide) (by decide) ?_
          exact law_c7 hS hC hT hx1 hx2 hx3 hx4 hx5 hx6 hx7 nx
        · refine am_tIn (q := 0) (off := 674) 734 iL_law_60 (by decide) (by decide) (by decide) (by decide) ?_
          exact law_c8 hS hC hT hx1 hx2 hx3 hx4 hx5 hx6 hx7 nx
        · refine am_tIn (q := 0) (off := 730) 790 iL_law_60 (by decide) (by decide) (by decide) (by decide) ?_
          exact law_c9 hS hC hT hx1 hx2 hx3 hx4 hx5 hx6 hx7 nx
        · refine am_tIn (q := 0) (off := 743) 803 iL_law_60 (by decide) (by decide) (by decide) (by decide) ?_
          exact law_c10 hS hC hT hx1 hx2 hx3 hx4 hx5 hx6 hx7 nx
        · refine am_tIn (q := 0) (off := 895) 955 iL_law_60 (by decide) (by decide) (by decide) (by decide) ?_
          exact law_c11 hS hC hT hx1 hx2 hx3 hx4 hx5 hx6 hx7 nx
        · refine am_tIn (q := 0) (off := 962) 1022 iL_law_60 (by decide) (by decide) (by decide) (by decide) ?_
          exact law_c12 hS hC hT hx1 hx2 hx3 hx4 hx5 hx6 hx7 nx
        · refine am_tIn (q := 0) (off := 1041) 1101 iL_law_60 (by decide) (by decide) (by decide) (by decide) ?_
          exact law_c13 hS hC hT hx1 hx2 hx3 hx4 hx5 hx6 hx7 nx
        · refine am_tIn (q := 0) (off := 1109) 1169 iL_law_60 (by decide) (by decide) (by decide) (by decide) ?_
          exact law_c14 hS hC hT hx1 hx2 hx3 hx4 hx5 hx6 hx7 nx
        · refine am_tIn (q := 0) (off := 1177) 1237 iL_law_60 (by decide) (by decide) (by decide) (by decide) ?_
          exact law_c15 hS hC hT hx1 hx2 hx3 hx4 hx5 hx6 hx7 nx
        · refine am_tIn (q := 0) (off := 1245) 1305 iL_law_60 (by decide) (by decide) (by decide) (by decide) ?_
          exact law_c16 hS hC hT hx1 hx2 hx3 hx4 hx5 hx6 hx7 nx
        · refine am_tIn (q := 0) (off := 1325) 1385 iL_law_60 (by decide) (by decide) (by decide) (by decide) ?_
          exact law_c17 hS hC hT hx1 hx2 hx3 hx4 hx5 hx6 hx7 nx
        · refine am_tIn (q := 0) (off := 1405) 1465 iL_law_60 (by decide) (by decide) (by decide) (by decide) ?_
          exact law_c18 hS hC hT hx1 hx2 hx3 hx4 hx5 hx6 hx7 nx
        · refine am_tIn (q := 0) (off := 1505) 1565 iL_law_60 (by decide) (by decide) (by decide) (by decide) ?_
          exact law_c19 hS hC hT hx1 hx2 hx3 hx4 hx5 hx6 hx7 nx
    · refine am_icmp_gt iL_law_50 (fun _ => ?_) (fun hc => absurd ((sub8 hL (by omega)).mpr (by omega)) hc)
      refine am_iconst (i := 1) (v := 1) rfl iL_law_1627 ?_
      exact am_zret iL_law_1628 rfl (Or.inr rfl) rfl
theorem cm_up {mA : am_Mem} {G : cg_G} {E : ms_X} (h : mA = cm mA G X E) (hL : LC mA G P R) (hu : c_up mA mm) : mm = cm mm G X E := by
  have bd : ∀ a, (co G a).1 ≠ 0 → a ≤ am_n mA := fun a ha => (hL.1 a ha).2.2.2.2
  have hI : c_ov G.1 cvI (yI X E) mm.2.2.2.1 = mm.2.2.2.1 := by
    funext a j
    cases hq : cvI (G.1 a).1 (G.1 a).2 j with
    | none => exact c_ov_n hq
    | some q =>
      rw [c_ov_s hq]
      have ha : (co G a).1 ≠ 0 := by
        intro z
        have z : (G.1 a).1 = 0 := z
        rw [z, cvI_0] at hq
        cases hq
      have e1 : am_I mm a j = am_I mA a j := ((hu.2 a (bd a ha)).2.2 j).1
      have e2 : am_I mA a j = c_ov G.1 cvI (yI X E) mA.2.2.2.1 a j := congrArg (fun z => am_I z a j) h
      rw [c_ov_s hq] at e2
      exact (e1.trans e2).symm
  have hJ : c_ov G.1 cvJ (yJ X E) mm.2.2.2.2.1 = mm.2.2.2.2.1 := by
    funext a j
    cases hq : cvJ (G.1 a).1 (G.1 a).2 j with
    | none => exact c_ov_n hq
    | some q =>
      rw [c_ov_s hq]
      have ha : (co G a).1 ≠ 0 := by
        intro z
        have z : (G.1 a).1 = 0 := z
        rw [z, cvJ_0] at hq
        cases hq
      have e1 : am_J mm a j = am_J mA a j := ((hu.2 a (bd a ha)).2.2 j).2.1
      have e2 : am_J mA a j = c_ov G.1 cvJ (yJ X E) mA.2.2.2.2.1 a j := congrArg (fun z => am_J z a j) h
      rw [c_ov_s hq] at e2
      exact (e1.trans e2).symm
  show mm = (mm.1, mm.2.1, mm.2.2.1, c_ov G.1 cvI (yI X E) mm.2.2.2.1, c_ov G.1 cvJ (yJ X E) mm.2.2.2.2.1, mm.2.2.2.2.2)
  rw [hI, hJ]
theorem law_svn {mA mB : am_Mem} (hP : 1 ≤ P ∧ P ≤ 3) (hR : 1 ≤ R ∧ R ≤ 4) (hCL : c_CL mA P R) (hu : am_u mA ≤ 6010) (hM : M = 31 + 2 * P + 19 * R) (hb : x_bld (am_new mA 7 0 39) M 34 mB) : SVN (am_new (xm mB M (x_ini P R)) 12 1 1) M (M + 35) (x_ini P R) P R 0 0 0 := by
  have hLM := hb.lm
  obtain ⟨b1, b2, -, -, -, -, b7⟩ := hb
  have nA := hCL.1
  have nC : am_n (am_new mA 7 0 39) = am_n mA + 1 := rfl
  have uC : am_u (am_new mA 7 0 39) = am_u mA + 39 := rfl
  have hz : x_sz 34 ≤ 22000 := by decide
  have up1 : c_up mA (am_new (xm mB M (x_ini P R)) 12 1 1) := by
    refine ⟨by show am_n mA ≤ am_n mB + 1; omega, fun a ha => ?_⟩
    obtain ⟨c1, c2, c3⟩ := (c_up.new mA 7 0 39).2 a ha
    obtain ⟨d1, d2, d3⟩ := b7 a (by omega)
    obtain ⟨e1, e2, e3⟩ := (c_up.new (xm mB M (x_ini P R)) 12 1 1).2 a (by show a ≤ am_n mB; omega)
    refine ⟨e1.trans (d1.trans c1), e2.trans (d2.trans c2), fun j => ⟨(e3 j).1.trans (Eq.trans ?_ ((d3 j).1.trans (c3 j).1)), (e3 j).2.1.trans (Eq.trans ?_ ((d3 j).2.1.trans (c3 j).2.1)), (e3 j).2.2.trans ((d3 j).2.2.trans (c3 j).2.2)⟩⟩
    · exact if_neg (by omega)
    · exact if_neg (by omega)
  have hInv := hCL.inv hP hR
  have up2 := c_up.new (xm mB M (x_ini P R)) 12 1 1
  have bd : ∀ o, o < 35 → M + o ≤ am_n (xm mB M (x_ini P R)) := fun o ho => by show M + o ≤ am_n mB; omega
  refine ⟨_, G0 P R, E0, cm_up (hCL.cm hR.2) hInv.1 up1, hInv.up up1, rfl, fun o ho j => ?_, ⟨?_, fun o h1 h2 => ?_, fun j hj h1 => ?_⟩, fun o ho => ?_, Nat.le_refl _, ⟨?_, ?_, ?_, ?_⟩, ?_, ?_⟩
  · obtain ⟨e1, e2, e3⟩ := up2.2 (M + o) (bd o ho)
    exact ⟨(e3 j).1.trans (RX.of mB M (x_ini P R) o ho j).1, (e3 j).2.1.trans (RX.of mB M (x_ini P R) o ho j).2⟩
  · exact (up2.2 (M + 0) (bd 0 (by omega))).1.trans hLM.1
  · exact ⟨(up2.2 (M + o) (bd o h2)).1.trans (hLM.2.1 o h1 h2).1, (up2.2 (M + o) (bd o h2)).2.1.trans (hLM.2.1 o h1 h2).2⟩
  · exact ((up2.2 (M + 0) (bd 0 (by omega))).2.2 j).2.2.trans (hLM.2.2 j hj h1)
  · show (own P R (M + o)).1 = 0
    rw [own_n (by omega)]
  · exact if_pos (by show M + 35 = am_n mB + 1; omega)
  · exact if_pos (by show M + 35 = am_n mB + 1; omega)
  · show (own P R (M + 35)).1 = 0
    rw [own_n (by omega)]
  · show M + 35 ≤ am_n mB + 1
    omega
  · show am_n mB + 1 ≤ _
    omega
  · show am_u mB + 1 ≤ _
    omega
theorem law_run {L : Nat} {xs : Nat → Int32} (hL : L ≤ 4098) : am_W (L, xs) 131 0 (am_ent [.retAddr 0] 8) [] am_m0 (fun o _ => o = .inl (some (.int 1))) := by
  show am_W (L, xs) 131 0 [.retAddr 0, .retAddr 1, .retAddr 1, .retAddr 1, .retAddr 1, .retAddr 1, .retAddr 1, .retAddr 1] [] am_m0 _
  have hP := x_nP_le (cel (L, xs) 0)
  have hR := x_nR_le (cel (L, xs) 1)
  refine am_newo (ci := 6) (N := 10) iL_law_0 (by decide) rfl wd_17 wd_18 wd_1 (by decide) (by decide) ?_
  have c1 : cb (am_new am_m0 6 0 10) 1 6 0 z0 := cb.new am_m0 6 0 10
  have n1 : am_n (am_new am_m0 6 0 10) = 1 ∧ am_u (am_new am_m0 6 0 10) = 10 := ⟨rfl, rfl⟩
  show am_W _ _ _ _ (.ref 1 :: _) (am_new am_m0 6 0 10) _
  generalize am_new am_m0 6 0 10 = m1 at c1 n1 ⊢
  refine am_dup iL_law_3 rfl ?_
  refine am_sload_n iL_law_4 rfl rfl ?_
  refine am_iconst (i := 0) (v := 0) rfl iL_law_5 ?_
  refine am_cS2r iL_law_6 cL_law_81 mL_cell rfl rfl rfl (l_cell (k := 0) hL (by omega)) ?_
  refine am_sload_n iL_law_9 rfl rfl ?_
  refine am_iconst (i := 1) (v := 1) rfl iL_law_10 ?_
  refine am_cS2r iL_law_11 cL_law_81 mL_cell rfl rfl rfl (l_cell (k := 1) hL (by omega)) ?_
  refine am_eI2v iL_law_14 cL_law_87 mX6_init ((by decide)) rfl rfl rfl (y_init c1 n1.1 (by decide) (by rw [n1.2]; decide)) ?_
  rintro mA ⟨hCL, huA⟩
  rw [n1.2] at huA
  have nA := hCL.1
  refine am_astore_n_1 iL_law_17 rfl rfl ?_
  refine am_newo (ci := 7) (N := 39) iL_law_18 (by decide) rfl wd_667 wd_668 wd_6 (by rw [nA]; unfold am_CM; omega) (by unfold am_SM; omega) ?_
  have kC : am_K (am_new mA 7 0 39) (am_n mA + 1) = 7 := if_pos rfl
  have zC : ∀ j, am_I (am_new mA 7 0 39) (am_n mA + 1) j = 0 ∧ am_J (am_new mA 7 0 39) (am_n mA + 1) j = 0 := fun j => ⟨if_pos rfl, if_pos rfl⟩
  have nC : am_n (am_new mA 7 0 39) = am_n mA + 1 ∧ am_u (am_new mA 7 0 39) = am_u mA + 39 := ⟨rfl, rfl⟩
  refine am_dup iL_law_21 rfl ?_
  refine am_sload_n iL_law_22 rfl rfl ?_
  refine am_iconst (i := 0) (v := 0) rfl iL_law_23 ?_
  refine am_cS2r iL_law_24 cL_law_81 mL_cell rfl rfl rfl (l_cell (k := 0) hL (by omega)) ?_
  refine am_sload_n iL_law_27 rfl rfl ?_
  refine am_iconst (i := 1) (v := 1) rfl iL_law_28 ?_
  refine am_cS2r iL_law_29 cL_law_81 mL_cell rfl rfl rfl (l_cell (k := 1) hL (by omega)) ?_
  refine am_eI2v iL_law_32 cL_law_92 mX7_init ((by omega)) rfl rfl rfl (x_init_ok kC (by omega) zC nC.1 (by rw [nC.1, nA]; unfold am_CM; omega) (by rw [nC.2]; unfold am_SM; omega)) ?_
  rintro m2 ⟨mB, hb, rfl⟩
  have eM : am_n mA + 1 = 31 + 2 * x_nP (cel (L, xs) 0) + 19 * x_nR (cel (L, xs) 1) := by omega
  rw [eM] at hb
  rw [eM]
  have hS := law_svn hP hR hCL (by omega) rfl hb
  have nB : am_n mB = 31 + 2 * x_nP (cel (L, xs) 0) + 19 * x_nR (cel (L, xs) 1) + 34 := hb.1
  have uB : am_u mB = am_u (am_new mA 7 0 39) + x_sz 34 := hb.2.1
  have hz : x_sz 34 ≤ 22000 := by decide
  refine am_astore_n_2 iL_law_35 rfl rfl ?_
  refine am_iconst (i := 1) (v := 1) rfl iL_law_36 ?_
  refine am_newaJ (N := 1) iL_law_37 wd_82 (by decide) (by decide) (by decide) (by show am_n mB + 1 ≤ _; rw [nB]; unfold am_CM; omega) (by show am_u mB + 1 ≤ _; rw [uB, nC.2]; unfold am_SM; omega) ?_
  have eO : am_n (xm mB (31 + 2 * x_nP (cel (L, xs) 0) + 19 * x_nR (cel (L, xs) 1)) (x_ini (x_nP (cel (L, xs) 0)) (x_nR (cel (L, xs) 1)))) + 1 = 31 + 2 * x_nP (cel (L, xs) 0) + 19 * x_nR (cel (L, xs) 1) + 35 := by
    show am_n mB + 1 = _
    omega
  rw [eO]
  refine am_astore_n_3 iL_law_39 rfl rfl ?_
  refine am_iconst (i := 2) (v := 2) rfl iL_law_40 ?_
  refine am_istore_4 iL_law_41 rfl rfl ?_
  exact law_loop (sc := (L, xs)) hL 513 0 _ _ _ _ _ _ (by omega) hS
end
