/-! the helpers of the law -/
section
variable {sc : Nat × (Nat → Int32)} {m mm : am_Mem} {G : cg_G} {X X2 E : ms_X} {P R N T M O C : Nat} {t : Int32}
theorem h_mode {v : Int32} (a0 : Int32) (a1 : Int32) (hc : am_W sc 24 0 [.ref (ca G 1 0), .int a0, .int a1, .retAddr 1, .retAddr 1, .retAddr 1] [] (cm m G X E) (y_Q t (kdf t) (.int v) (y_POST m G X2 P R T))) (ht : t = 0 ∨ t = 1 ∨ t = 2) (hL : LC m G P R) (hR : SR m G M O X C) : am_W sc 112 0 [.ref (ca G 1 0), .int a0, .int a1, .ref O, .retAddr 1] [] (cm m G X E) (am_RE (some (.int t)) (fun mm1 => SH mm1 M O X X2 P R T (C + 1) v.toInt64 t)) := by
  refine am_aload_n iL_mode_0 rfl rfl ?_
  refine am_iconst (i := 0) (v := 0) rfl iL_mode_1 ?_
  refine am_aload_n iL_mode_2 rfl rfl ?_
  refine am_iload_n iL_mode_3 rfl rfl ?_
  refine am_iload_n iL_mode_4 rfl rfl ?_
  refine am_callV (vs := [.int a0, .int a1]) iL_mode_5 cL_mode_7 mX6_mode (y_K hL hL.2.1 rfl rfl) rfl (Nat.le_of_ble_eq_true rfl) (Nat.le_of_ble_eq_true rfl) (Nat.le_of_ble_eq_true rfl) hc (fun v' m' hq => ?_) (fun z m' hq => ?_)
  · obtain ⟨hp, ⟨h0, e⟩ | ⟨-, a', e, -⟩⟩ := hq
    · cases e
      obtain ⟨m2, G2, E2, N2, rfl, hI2, hR2⟩ := h_end hR hp
      show am_W _ _ _ _ [.int v, .int 0, .ref O] _ _
      refine am_i2l iL_mode_8 ?_
      refine am_last iL_mode_9 hR2.2.2.2.2.2.1.1 (by rw [show am_L (cm m2 G2 X2 E2) O = 1 from hR2.2.2.2.2.2.1.2.1]; exact vp_in_nI (n := 0) (N := 1) (by decide) (by decide)) ?_
      show am_W _ _ _ _ _ (am_setJ (cm m2 G2 X2 E2) O 0 v.toInt64) _
      rw [cm_setJu hR2.2.2.2.2.2.1.2.2.1]
      refine am_goto iL_mode_10 ?_
      refine am_iconst (i := 0) (v := 0) rfl iL_mode_21 ?_
      exact am_iret iL_mode_22 rfl ⟨by rw [h0], am_setJ m2 O 0 v.toInt64, G2, E2, N2, rfl, hI2, hR2.setJ _, fun _ => if_pos ⟨rfl, rfl⟩⟩
    · cases e
  · obtain ⟨hp, ⟨-, e⟩ | ⟨hn, a', e, hK⟩⟩ := hq
    · cases e
    · cases e
      obtain ⟨m2, G2, E2, N2, rfl, hI2, hR2⟩ := h_end hR hp
      rcases ht with rfl | rfl | rfl
      · exact absurd rfl hn
      · refine am_catch [] (0, 10, 13, 13) [(0, 10, 17, 15)] rfl (show am_K _ _ = 8 from hK) (by decide) (by decide) ⟨by decide, by decide⟩ (by decide) wd_186 wd_197 (fun y hy => nomatch hy) ?_
        refine am_astore_4 iL_mode_13 rfl rfl ?_
        refine am_iconst (i := 1) (v := 1) rfl iL_mode_15 ?_
        exact am_iret iL_mode_16 rfl ⟨rfl, m2, G2, E2, N2, rfl, hI2, hR2, fun z => absurd z (by decide)⟩
      · refine am_catch [(0, 10, 13, 13)] (0, 10, 17, 15) [] rfl (show am_K _ _ = 9 from hK) (by decide) (by decide) ⟨by decide, by decide⟩ (by decide) wd_187 wd_268 (fun y hy => by rw [List.mem_singleton] at hy; subst hy; exact ⟨by decide, _, wd_186, List.Mem.head _⟩) ?_
        refine am_astore_4 iL_mode_17 rfl rfl ?_
        refine am_iconst (i := 2) (v := 2) rfl iL_mode_19 ?_
        exact am_iret iL_mode_20 rfl ⟨rfl, m2, G2, E2, N2, rfl, hI2, hR2, fun z => absurd z (by decide)⟩
theorem H_mode (hS : SVN mm M O X P R N T C) (hC : C ≤ 512) (hT : T + 100 ≤ 1000000) (a0 : Int32) (a1 : Int32) : am_W sc 112 0 [.ref 1, .int a0, .int a1, .ref O, .retAddr 1] [] mm (am_RE (some (.int ((x_mode X P R N a0 a1).2.1 0 2))) (fun mm1 => SH mm1 M O X (x_mode X P R N a0 a1).2 P R (T + 100) (C + 1) (x_mode X P R N a0 a1).1.toInt64 ((x_mode X P R N a0 a1).2.1 0 2))) := by
  obtain ⟨m, G, E, rfl, hI, hR⟩ := hS
  have h := h_mode (sc := sc) a0 a1 (y_mode hI (hR.rm hC) hT a0 a1) (t_mode a0 a1) hI.1 hR
  rw [hR.1] at h
  exact h
theorem h_home {v : Int32} (a0 : Int32) (a1 : Int32) (hc : am_W sc 25 0 [.ref (ca G 1 0), .int a0, .int a1, .retAddr 1] [] (cm m G X E) (y_Q t (kdf t) (.int v) (y_POST m G X2 P R T))) (ht : t = 0 ∨ t = 1) (hL : LC m G P R) (hR : SR m G M O X C) : am_W sc 113 0 [.ref (ca G 1 0), .int a0, .int a1, .ref O, .retAddr 1] [] (cm m G X E) (am_RE (some (.int t)) (fun mm1 => SH mm1 M O X X2 P R T (C + 1) v.toInt64 t)) := by
  refine am_aload_n iL_home_0 rfl rfl ?_
  refine am_iconst (i := 0) (v := 0) rfl iL_home_1 ?_
  refine am_aload_n iL_home_2 rfl rfl ?_
  refine am_iload_n iL_home_3 rfl rfl ?_
  refine am_iload_n iL_home_4 rfl rfl ?_
  refine am_callV (vs := [.int a0, .int a1]) iL_home_5 cL_home_17 mX6_home (y_K hL hL.2.1 rfl rfl) rfl (Nat.le_of_ble_eq_true rfl) (Nat.le_of_ble_eq_true rfl) (Nat.le_of_ble_eq_true rfl) hc (fun v' m' hq => ?_) (fun z m' hq => ?_)
  · obtain ⟨hp, ⟨h0, e⟩ | ⟨-, a', e, -⟩⟩ := hq
    · cases e
      obtain ⟨m2, G2, E2, N2, rfl, hI2, hR2⟩ := h_end hR hp
      show am_W _ _ _ _ [.int v, .int 0, .ref O] _ _
      refine am_i2l iL_home_8 ?_
      refine am_last iL_home_9 hR2.2.2.2.2.2.1.1 (by rw [show am_L (cm m2 G2 X2 E2) O = 1 from hR2.2.2.2.2.2.1.2.1]; exact vp_in_nI (n := 0) (N := 1) (by decide) (by decide)) ?_
      show am_W _ _ _ _ _ (am_setJ (cm m2 G2 X2 E2) O 0 v.toInt64) _
      rw [cm_setJu hR2.2.2.2.2.2.1.2.2.1]
      refine am_goto iL_home_10 ?_
      refine am_iconst (i := 0) (v := 0) rfl iL_home_17 ?_
      exact am_iret iL_home_18 rfl ⟨by rw [h0], am_setJ m2 O 0 v.toInt64, G2, E2, N2, rfl, hI2, hR2.setJ _, fun _ => if_pos ⟨rfl, rfl⟩⟩
    · cases e
  · obtain ⟨hp, ⟨-, e⟩ | ⟨hn, a', e, hK⟩⟩ := hq
    · cases e
    · cases e
      obtain ⟨m2, G2, E2, N2, rfl, hI2, hR2⟩ := h_end hR hp
      rcases ht with rfl | rfl
      · exact absurd rfl hn
      · refine am_catch [] (0, 10, 13, 13) [] rfl (show am_K _ _ = 8 from hK) (by decide) (by decide) ⟨by decide, by decide⟩ (by decide) wd_186 wd_197 (fun y hy => nomatch hy) ?_
        refine am_astore_4 iL_home_13 rfl rfl ?_
        refine am_iconst (i := 1) (v := 1) rfl iL_home_15 ?_
        exact am_iret iL_home_16 rfl ⟨rfl, m2, G2, E2, N2, rfl, hI2, hR2, fun z => absurd z (by decide)⟩
theorem H_home (hS : SVN mm M O X P R N T C) (hC : C ≤ 512) (hT : T + 100 ≤ 1000000) (a0 : Int32) (a1 : Int32) : am_W sc 113 0 [.ref 1, .int a0, .int a1, .ref O, .retAddr 1] [] mm (am_RE (some (.int ((x_home X R a0 a1).2.1 0 2))) (fun mm1 => SH mm1 M O X (x_home X R a0 a1).2 P R (T + 100) (C + 1) (x_home X R a0 a1).1.toInt64 ((x_home X R a0 a1).2.1 0 2))) := by
  obtain ⟨m, G, E, rfl, hI, hR⟩ := hS
  have h := h_home (sc := sc) a0 a1 (y_home hI (hR.rm hC) hT a0 a1) (t_home a0 a1) hI.1 hR
  rw [hR.1] at h
  exact h
theorem h_command {v : Int64} (a0 : Int32) (a1 : Int32) (a2 : Int32) (a3 : Int32) (a4 : Int32) (hc : am_W sc 26 0 [.ref (ca G 1 0), .int a0, .int a1, .int a2, .int a3, .int a4, .retAddr 1, .retAddr 1, .retAddr 1, .retAddr 1] [] (cm m G X E) (y_Q t (kdf t) (.long v) (y_POST m G X2 P R T))) (ht : t = 0 ∨ t = 1 ∨ t = 2 ∨ t = 3) (hL : LC m G P R) (hR : SR m G M O X C) : am_W sc 114 0 [.ref (ca G 1 0), .int a0, .int a1, .int a2, .int a3, .int a4, .ref O, .retAddr 1] [] (cm m G X E) (am_RE (some (.int t)) (fun mm1 => SH mm1 M O X X2 P R T (C + 1) v t)) := by
  refine am_aload iL_command_0 rfl ?_
  refine am_iconst (i := 0) (v := 0) rfl iL_command_2 ?_
  refine am_aload_n iL_command_3 rfl rfl ?_
  refine am_iload_n iL_command_4 rfl rfl ?_
  refine am_iload_n iL_command_5 rfl rfl ?_
  refine am_iload_n iL_command_6 rfl rfl ?_
  refine am_iload iL_command_7 rfl ?_
  refine am_iload iL_command_9 rfl ?_
  refine am_callV (vs := [.int a0, .int a1, .int a2, .int a3, .int a4]) iL_command_11 cL_command_20 mX6_command (y_K hL hL.2.1 rfl rfl) rfl (Nat.le_of_ble_eq_true rfl) (Nat.le_of_ble_eq_true rfl) (Nat.le_of_ble_eq_true rfl) hc (fun v' m' hq => ?_) (fun z m' hq => ?_)
  · obtain ⟨hp, ⟨h0, e⟩ | ⟨-, a', e, -⟩⟩ := hq
    · cases e
      obtain ⟨m2, G2, E2, N2, rfl, hI2, hR2⟩ := h_end hR hp
      show am_W _ _ _ _ [.long v, .int 0, .ref O] _ _
      refine am_last iL_command_14 hR2.2.2.2.2.2.1.1 (by rw [show am_L (cm m2 G2 X2 E2) O = 1 from hR2.2.2.2.2.2.1.2.1]; exact vp_in_nI (n := 0) (N := 1) (by decide) (by decide)) ?_
      show am_W _ _ _ _ _ (am_setJ (cm m2 G2 X2 E2) O 0 v) _
      rw [cm_setJu hR2.2.2.2.2.2.1.2.2.1]
      refine am_goto iL_command_15 ?_
      refine am_iconst (i := 0) (v := 0) rfl iL_command_30 ?_
      exact am_iret iL_command_31 rfl ⟨by rw [h0], am_setJ m2 O 0 v, G2, E2, N2, rfl, hI2, hR2.setJ _, fun _ => if_pos ⟨rfl, rfl⟩⟩
    · cases e
  · obtain ⟨hp, ⟨-, e⟩ | ⟨hn, a', e, hK⟩⟩ := hq
    · cases e
    · cases e
      obtain ⟨m2, G2, E2, N2, rfl, hI2, hR2⟩ := h_end hR hp
      rcases ht with rfl | rfl | rfl | rfl
      · exact absurd rfl hn
      · refine am_catch [] (0, 15, 18, 13) [(0, 15, 22, 15), (0, 15, 26, 24)] rfl (show am_K _ _ = 8 from hK) (by decide) (by decide) ⟨by decide, by decide⟩ (by decide) wd_186 wd_197 (fun y hy => nomatch hy) ?_
        refine am_astore_7 iL_command_18 rfl rfl ?_
        refine am_iconst (i := 1) (v := 1) rfl iL_command_20 ?_
        exact am_iret iL_command_21 rfl ⟨rfl, m2, G2, E2, N2, rfl, hI2, hR2, fun z => absurd z (by decide)⟩
      · refine am_catch [(0, 15, 18, 13)] (0, 15, 22, 15) [(0, 15, 26, 24)] rfl (show am_K _ _ = 9 from hK) (by decide) (by decide) ⟨by decide, by decide⟩ (by decide) wd_187 wd_268 (fun y hy => by rw [List.mem_singleton] at hy; subst hy; exact ⟨by decide, _, wd_186, List.Mem.head _⟩) ?_
        refine am_astore_7 iL_command_22 rfl rfl ?_
        refine am_iconst (i := 2) (v := 2) rfl iL_command_24 ?_
        exact am_iret iL_command_25 rfl ⟨rfl, m2, G2, E2, N2, rfl, hI2, hR2, fun z => absurd z (by decide)⟩
      · refine am_catch [(0, 15, 18, 13), (0, 15, 22, 15)] (0, 15, 26, 24) [] rfl (show am_K _ _ = 10 from hK) (by decide) (by decide) ⟨by decide, by decide⟩ (by decide) wd_349 wd_357 (fun y hy => by rw [List.mem_cons, List.mem_singleton] at hy; rcases hy with rfl | rfl; exact ⟨by decide, _, wd_186, List.Mem.tail _ (List.Mem.head _)⟩; exact ⟨by decide, _, wd_187, List.Mem.tail _ (List.Mem.tail _ (List.Mem.head _))⟩) ?_
        refine am_astore_7 iL_command_26 rfl rfl ?_
        refine am_iconst (i := 3) (v := 3) rfl iL_command_28 ?_
        exact am_iret iL_command_29 rfl ⟨rfl, m2, G2, E2, N2, rfl, hI2, hR2, fun z => absurd z (by decide)⟩
theorem H_command (hS : SVN mm M O X P R N T C) (hC : C ≤ 512) (hT : T + 100 ≤ 1000000) (a0 : Int32) (a1 : Int32) (a2 : Int32) (a3 : Int32) (a4 : Int32) : am_W sc 114 0 [.ref 1, .int a0, .int a1, .int a2, .int a3, .int a4, .ref O, .retAddr 1] [] mm (am_RE (some (.int ((x_cmd X P a0 a1 a2 a3 a4).2.1 0 2))) (fun mm1 => SH mm1 M O X (x_cmd X P a0 a1 a2 a3 a4).2 P R (T + 100) (C + 1) (x_cmd X P a0 a1 a2 a3 a4).1 ((x_cmd X P a0 a1 a2 a3 a4).2.1 0 2))) := by
  obtain ⟨m, G, E, rfl, hI, hR⟩ := hS
  have h := h_command (sc := sc) a0 a1 a2 a3 a4 (y_command hI (hR.rm hC) hT a0 a1 a2 a3 a4) (t_command a0 a1 a2 a3 a4) hI.1 hR
  rw [hR.1] at h
  exact h
theorem h_step {v : Int32} (a0 : Int32) (a1 : Int32) (hc : am_W sc 27 0 [.ref (ca G 1 0), .int a0, .int a1] [] (cm m G X E) (y_Q t (kdf t) (.int v) (y_POST m G X2 P R T))) (ht : t = 0 ∨ t = 1) (hL : LC m G P R) (hR : SR m G M O X C) : am_W sc 115 0 [.ref (ca G 1 0), .int a0, .int a1, .ref O, .retAddr 1] [] (cm m G X E) (am_RE (some (.int t)) (fun mm1 => SH mm1 M O X X2 P R T (C + 1) v.toInt64 t)) := by
  refine am_aload_n iL_step_0 rfl rfl ?_
  refine am_iconst (i := 0) (v := 0) rfl iL_step_1 ?_
  refine am_aload_n iL_step_2 rfl rfl ?_
  refine am_iload_n iL_step_3 rfl rfl ?_
  refine am_iload_n iL_step_4 rfl rfl ?_
  refine am_callV (vs := [.int a0, .int a1]) iL_step_5 cL_step_26 mX6_step (y_K hL hL.2.1 rfl rfl) rfl (Nat.le_of_ble_eq_true rfl) (Nat.le_of_ble_eq_true rfl) (Nat.le_of_ble_eq_true rfl) hc (fun v' m' hq => ?_) (fun z m' hq => ?_)
  · obtain ⟨hp, ⟨h0, e⟩ | ⟨-, a', e, -⟩⟩ := hq
    · cases e
      obtain ⟨m2, G2, E2, N2, rfl, hI2, hR2⟩ := h_end hR hp
      show am_W _ _ _ _ [.int v, .int 0, .ref O] _ _
      refine am_i2l iL_step_8 ?_
      refine am_last iL_step_9 hR2.2.2.2.2.2.1.1 (by rw [show am_L (cm m2 G2 X2 E2) O = 1 from hR2.2.2.2.2.2.1.2.1]; exact vp_in_nI (n := 0) (N := 1) (by decide) (by decide)) ?_
      show am_W _ _ _ _ _ (am_setJ (cm m2 G2 X2 E2) O 0 v.toInt64) _
      rw [cm_setJu hR2.2.2.2.2.2.1.2.2.1]
      refine am_goto iL_step_10 ?_
      refine am_iconst (i := 0) (v := 0) rfl iL_step_17 ?_
      exact am_iret iL_step_18 rfl ⟨by rw [h0], am_setJ m2 O 0 v.toInt64, G2, E2, N2, rfl, hI2, hR2.setJ _, fun _ => if_pos ⟨rfl, rfl⟩⟩
    · cases e
  · obtain ⟨hp, ⟨-, e⟩ | ⟨hn, a', e, hK⟩⟩ := hq
    · cases e
    · cases e
      obtain ⟨m2, G2, E2, N2, rfl, hI2, hR2⟩ := h_end hR hp
      rcases ht with rfl | rfl
      · exact absurd rfl hn
      · refine am_catch [] (0, 10, 13, 13) [] rfl (show am_K _ _ = 8 from hK) (by decide) (by decide) ⟨by decide, by decide⟩ (by decide) wd_186 wd_197 (fun y hy => nomatch hy) ?_
        refine am_astore_4 iL_step_13 rfl rfl ?_
        refine am_iconst (i := 1) (v := 1) rfl iL_step_15 ?_
        exact am_iret iL_step_16 rfl ⟨rfl, m2, G2, E2, N2, rfl, hI2, hR2, fun z => absurd z (by decide)⟩
theorem H_step (hS : SVN mm M O X P R N T C) (hC : C ≤ 512) (hT : T + 100 ≤ 1000000) (a0 : Int32) (a1 : Int32) : am_W sc 115 0 [.ref 1, .int a0, .int a1, .ref O, .retAddr 1] [] mm (am_RE (some (.int ((x_step X P R N a0 a1).2.1 0 2))) (fun mm1 => SH mm1 M O X (x_step X P R N a0 a1).2 P R (T + 100) (C + 1) (x_step X P R N a0 a1).1.toInt64 ((x_step X P R N a0 a1).2.1 0 2))) := by
  obtain ⟨m, G, E, rfl, hI, hR⟩ := hS
  have h := h_step (sc := sc) a0 a1 (y_step hI (hR.rm hC) hT a0 a1) (t_step a0 a1) hI.1 hR
  rw [hR.1] at h
  exact h
theorem h_speed {v : Int32} (a0 : Int32) (a1 : Int32) (hc : am_W sc 28 0 [.ref (ca G 1 0), .int a0, .int a1, .retAddr 1] [] (cm m G X E) (y_Q t (kdf t) (.int v) (y_POST m G X2 P R T))) (ht : t = 0 ∨ t = 1 ∨ t = 2) (hL : LC m G P R) (hR : SR m G M O X C) : am_W sc 116 0 [.ref (ca G 1 0), .int a0, .int a1, .ref O, .retAddr 1] [] (cm m G X E) (am_RE (some (.int t)) (fun mm1 => SH mm1 M O X X2 P R T (C + 1) v.toInt64 t)) := by
  refine am_aload_n iL_speed_0 rfl rfl ?_
  refine am_iconst (i := 0) (v := 0) rfl iL_speed_1 ?_
  refine am_aload_n iL_speed_2 rfl rfl ?_
  refine am_iload_n iL_speed_3 rfl rfl ?_
  refine am_iload_n iL_speed_4 rfl rfl ?_
  refine am_callV (vs := [.int a0, .int a1]) iL_speed_5 cL_speed_29 mX6_speed (y_K hL hL.2.1 rfl rfl) rfl (Nat.le_of_ble_eq_true rfl) (Nat.le_of_ble_eq_true rfl) (Nat.le_of_ble_eq_true rfl) hc (fun v' m' hq => ?_) (fun z m' hq => ?_)
  · obtain ⟨hp, ⟨h0, e⟩ | ⟨-, a', e, -⟩⟩ := hq
    · cases e
      obtain ⟨m2, G2, E2, N2, rfl, hI2, hR2⟩ := h_end hR hp
      show am_W _ _ _ _ [.int v, .int 0, .ref O] _ _
      refine am_i2l iL_speed_8 ?_
      refine am_last iL_speed_9 hR2.2.2.2.2.2.1.1 (by rw [show am_L (cm m2 G2 X2 E2) O = 1 from hR2.2.2.2.2.2.1.2.1]; exact vp_in_nI (n := 0) (N := 1) (by decide) (by decide)) ?_
      show am_W _ _ _ _ _ (am_setJ (cm m2 G2 X2 E2) O 0 v.toInt64) _
      rw [cm_setJu hR2.2.2.2.2.2.1.2.2.1]
      refine am_goto iL_speed_10 ?_
      refine am_iconst (i := 0) (v := 0) rfl iL_speed_21 ?_
      exact am_iret iL_speed_22 rfl ⟨by rw [h0], am_setJ m2 O 0 v.toInt64, G2, E2, N2, rfl, hI2, hR2.setJ _, fun _ => if_pos ⟨rfl, rfl⟩⟩
    · cases e
  · obtain ⟨hp, ⟨-, e⟩ | ⟨hn, a', e, hK⟩⟩ := hq
    · cases e
    · cases e
      obtain ⟨m2, G2, E2, N2, rfl, hI2, hR2⟩ := h_end hR hp
      rcases ht with rfl | rfl | rfl
      · exact absurd rfl hn
      · refine am_catch [] (0, 10, 13, 13) [(0, 10, 17, 15)] rfl (show am_K _ _ = 8 from hK) (by decide) (by decide) ⟨by decide, by decide⟩ (by decide) wd_186 wd_197 (fun y hy => nomatch hy) ?_
        refine am_astore_4 iL_speed_13 rfl rfl ?_
        refine am_iconst (i := 1) (v := 1) rfl iL_speed_15 ?_
        exact am_iret iL_speed_16 rfl ⟨rfl, m2, G2, E2, N2, rfl, hI2, hR2, fun z => absurd z (by decide)⟩
      · refine am_catch [(0, 10, 13, 13)] (0, 10, 17, 15) [] rfl (show am_K _ _ = 9 from hK) (by decide) (by decide) ⟨by decide, by decide⟩ (by decide) wd_187 wd_268 (fun y hy => by rw [List.mem_singleton] at hy; subst hy; exact ⟨by decide, _, wd_186, List.Mem.head _⟩) ?_
        refine am_astore_4 iL_speed_17 rfl rfl ?_
        refine am_iconst (i := 2) (v := 2) rfl iL_speed_19 ?_
        exact am_iret iL_speed_20 rfl ⟨rfl, m2, G2, E2, N2, rfl, hI2, hR2, fun z => absurd z (by decide)⟩
theorem H_speed (hS : SVN mm M O X P R N T C) (hC : C ≤ 512) (hT : T + 100 ≤ 1000000) (a0 : Int32) (a1 : Int32) : am_W sc 116 0 [.ref 1, .int a0, .int a1, .ref O, .retAddr 1] [] mm (am_RE (some (.int ((x_speed X R a0 a1).2.1 0 2))) (fun mm1 => SH mm1 M O X (x_speed X R a0 a1).2 P R (T + 100) (C + 1) (x_speed X R a0 a1).1.toInt64 ((x_speed X R a0 a1).2.1 0 2))) := by
  obtain ⟨m, G, E, rfl, hI, hR⟩ := hS
  have h := h_speed (sc := sc) a0 a1 (y_speed hI (hR.rm hC) hT a0 a1) (t_speed a0 a1) hI.1 hR
  rw [hR.1] at h
  exact h
theorem h_ticks {v : Int32} (a0 : Int32) (hc : am_W sc 29 0 [.ref (ca G 1 0), .int a0, .retAddr 1, .retAddr 1, .retAddr 1] [] (cm m G X E) (y_Q t 9 (.int v) (y_POST m G X2 P R T))) (ht : t = 0 ∨ t = 1) (hL : LC m G P R) (hR : SR m G M O X C) : am_W sc 117 0 [.ref (ca G 1 0), .int a0, .ref O, .retAddr 1] [] (cm m G X E) (am_RE (some (.int t)) (fun mm1 => SH mm1 M O X X2 P R T (C + 1) v.toInt64 t)) := by
  refine am_aload_n iL_ticks_0 rfl rfl ?_
  refine am_iconst (i := 0) (v := 0) rfl iL_ticks_1 ?_
  refine am_aload_n iL_ticks_2 rfl rfl ?_
  refine am_iload_n iL_ticks_3 rfl rfl ?_
  refine am_callV (vs := [.int a0]) iL_ticks_4 cL_ticks_32 mX6_ticks (y_K hL hL.2.1 rfl rfl) rfl (Nat.le_of_ble_eq_true rfl) (Nat.le_of_ble_eq_true rfl) (Nat.le_of_ble_eq_true rfl) hc (fun v' m' hq => ?_) (fun z m' hq => ?_)
  · obtain ⟨hp, ⟨h0, e⟩ | ⟨-, a', e, -⟩⟩ := hq
    · cases e
      obtain ⟨m2, G2, E2, N2, rfl, hI2, hR2⟩ := h_end hR hp
      show am_W _ _ _ _ [.int v, .int 0, .ref O] _ _
      refine am_i2l iL_ticks_7 ?_
      refine am_last iL_ticks_8 hR2.2.2.2.2.2.1.1 (by rw [show am_L (cm m2 G2 X2 E2) O = 1 from hR2.2.2.2.2.2.1.2.1]; exact vp_in_nI (n := 0) (N := 1) (by decide) (by decide)) ?_
      show am_W _ _ _ _ _ (am_setJ (cm m2 G2 X2 E2) O 0 v.toInt64) _
      rw [cm_setJu hR2.2.2.2.2.2.1.2.2.1]
      refine am_goto iL_ticks_9 ?_
      refine am_iconst (i := 0) (v := 0) rfl iL_ticks_15 ?_
      exact am_iret iL_ticks_16 rfl ⟨by rw [h0], am_setJ m2 O 0 v.toInt64, G2, E2, N2, rfl, hI2, hR2.setJ _, fun _ => if_pos ⟨rfl, rfl⟩⟩
    · cases e
  · obtain ⟨hp, ⟨-, e⟩ | ⟨hn, a', e, hK⟩⟩ := hq
    · cases e
    · cases e
      obtain ⟨m2, G2, E2, N2, rfl, hI2, hR2⟩ := h_end hR hp
      rcases ht with rfl | rfl
      · exact absurd rfl hn
      · refine am_catch [] (0, 9, 12, 15) [] rfl (show am_K _ _ = 9 from hK) (by decide) (by decide) ⟨by decide, by decide⟩ (by decide) wd_187 wd_268 (fun y hy => nomatch hy) ?_
        refine am_astore_n_3 iL_ticks_12 rfl rfl ?_
        refine am_iconst (i := 1) (v := 1) rfl iL_ticks_13 ?_
        exact am_iret iL_ticks_14 rfl ⟨rfl, m2, G2, E2, N2, rfl, hI2, hR2, fun z => absurd z (by decide)⟩
theorem H_ticks (hS : SVN mm M O X P R N T C) (hC : C ≤ 512) (hT : T + 100 ≤ 1000000) (a0 : Int32) : am_W sc 117 0 [.ref 1, .int a0, .ref O, .retAddr 1] [] mm (am_RE (some (.int ((x_ticks X P R N a0).2.1 0 2))) (fun mm1 => SH mm1 M O X (x_ticks X P R N a0).2 P R (T + 100) (C + 1) (x_ticks X P R N a0).1.toInt64 ((x_ticks X P R N a0).2.1 0 2))) := by
  obtain ⟨m, G, E, rfl, hI, hR⟩ := hS
  have h := h_ticks (sc := sc) a0 (y_ticks hI (hR.rm hC) hT a0) (t_ticks a0) hI.1 hR
  rw [hR.1] at h
  exact h
theorem h_up {v : Int32} (a0 : Int32) (a1 : Int32) (hc : am_W sc 30 0 [.ref (ca G 1 0), .int a0, .int a1, .retAddr 1] [] (cm m G X E) (y_Q t (kdf t) (.int v) (y_POST m G X2 P R T))) (ht : t = 0 ∨ t = 1) (hL : LC m G P R) (hR : SR m G M O X C) : am_W sc 118 0 [.ref (ca G 1 0), .int a0, .int a1, .ref O, .retAddr 1] [] (cm m G X E) (am_RE (some (.int t)) (fun mm1 => SH mm1 M O X X2 P R T (C + 1) (if v = 0 then 0 else 1) t)) := by
  refine am_aload_n iL_up_0 rfl rfl ?_
  refine am_iconst (i := 0) (v := 0) rfl iL_up_1 ?_
  refine am_aload_n iL_up_2 rfl rfl ?_
  refine am_iload_n iL_up_3 rfl rfl ?_
  refine am_iload_n iL_up_4 rfl rfl ?_
  refine am_callV (vs := [.int a0, .int a1]) iL_up_5 cL_up_36 mX6_up (y_K hL hL.2.1 rfl rfl) rfl (Nat.le_of_ble_eq_true rfl) (Nat.le_of_ble_eq_true rfl) (Nat.le_of_ble_eq_true rfl) hc (fun v' m' hq => ?_) (fun z m' hq => ?_)
  · obtain ⟨hp, ⟨h0, e⟩ | ⟨-, a', e, -⟩⟩ := hq
    · cases e
      obtain ⟨m2, G2, E2, N2, rfl, hI2, hR2⟩ := h_end hR hp
      show am_W _ _ _ _ [.int v, .int 0, .ref O] _ _
      refine am_if_eq iL_up_8 (fun c0 => ?_) (fun c0 => ?_)
      · refine am_lconst (i := 0) (v := 0) rfl iL_up_15 ?_
        rw [if_pos c0]
        refine am_last iL_up_16 hR2.2.2.2.2.2.1.1 (by rw [show am_L (cm m2 G2 X2 E2) O = 1 from hR2.2.2.2.2.2.1.2.1]; exact vp_in_nI (n := 0) (N := 1) (by decide) (by decide)) ?_
        show am_W _ _ _ _ _ (am_setJ (cm m2 G2 X2 E2) O 0 0) _
        rw [cm_setJu hR2.2.2.2.2.2.1.2.2.1]
        refine am_goto iL_up_17 ?_
        refine am_iconst (i := 0) (v := 0) rfl iL_up_24 ?_
        exact am_iret iL_up_25 rfl ⟨by rw [h0], am_setJ m2 O 0 0, G2, E2, N2, rfl, hI2, hR2.setJ _, fun _ => if_pos ⟨rfl, rfl⟩⟩
      · refine am_lconst (i := 1) (v := 1) rfl iL_up_11 ?_
        refine am_goto iL_up_12 ?_
        rw [if_neg c0]
        refine am_last iL_up_16 hR2.2.2.2.2.2.1.1 (by rw [show am_L (cm m2 G2 X2 E2) O = 1 from hR2.2.2.2.2.2.1.2.1]; exact vp_in_nI (n := 0) (N := 1) (by decide) (by decide)) ?_
        show am_W _ _ _ _ _ (am_setJ (cm m2 G2 X2 E2) O 0 1) _
        rw [cm_setJu hR2.2.2.2.2.2.1.2.2.1]
        refine am_goto iL_up_17 ?_
        refine am_iconst (i := 0) (v := 0) rfl iL_up_24 ?_
        exact am_iret iL_up_25 rfl ⟨by rw [h0], am_setJ m2 O 0 1, G2, E2, N2, rfl, hI2, hR2.setJ _, fun _ => if_pos ⟨rfl, rfl⟩⟩
    · cases e
  · obtain ⟨hp, ⟨-, e⟩ | ⟨hn, a', e, hK⟩⟩ := hq
    · cases e
    · cases e
      obtain ⟨m2, G2, E2, N2, rfl, hI2, hR2⟩ := h_end hR hp
      rcases ht with rfl | rfl
      · exact absurd rfl hn
      · refine am_catch [] (0, 17, 20, 13) [] rfl (show am_K _ _ = 8 from hK) (by decide) (by decide) ⟨by decide, by decide⟩ (by decide) wd_186 wd_197 (fun y hy => nomatch hy) ?_
        refine am_astore_4 iL_up_20 rfl rfl ?_
        refine am_iconst (i := 1) (v := 1) rfl iL_up_22 ?_
        exact am_iret iL_up_23 rfl ⟨rfl, m2, G2, E2, N2, rfl, hI2, hR2, fun z => absurd z (by decide)⟩
theorem H_up (hS : SVN mm M O X P R N T C) (hC : C ≤ 512) (hT : T + 100 ≤ 1000000) (a0 : Int32) (a1 : Int32) (hb : a1 = 0 ∨ a1 = 1) : am_W sc 118 0 [.ref 1, .int a0, .int a1, .ref O, .retAddr 1] [] mm (am_RE (some (.int ((x_up X P R N a0 a1).2.1 0 2))) (fun mm1 => SH mm1 M O X (x_up X P R N a0 a1).2 P R (T + 100) (C + 1) (if (x_up X P R N a0 a1).1 = 0 then 0 else 1) ((x_up X P R N a0 a1).2.1 0 2))) := by
  obtain ⟨m, G, E, rfl, hI, hR⟩ := hS
  have h := h_up (sc := sc) a0 a1 (y_up hI (hR.rm hC) hT a0 a1 hb) (t_up a0 a1) hI.1 hR
  rw [hR.1] at h
  exact h
theorem h_snapshot {v : Int32} (a0 : Int32) (hc : am_W sc 31 0 [.ref (ca G 1 0), .int a0, .retAddr 1] [] (cm m G X E) (y_Q t (kdf t) (.int v) (y_POST m G X2 P R T))) (ht : t = 0 ∨ t = 1) (hL : LC m G P R) (hR : SR m G M O X C) : am_W sc 119 0 [.ref (ca G 1 0), .int a0, .ref O, .retAddr 1] [] (cm m G X E) (am_RE (some (.int t)) (fun mm1 => SH mm1 M O X X2 P R T (C + 1) v.toInt64 t)) := by
  refine am_aload_n iL_snapshot_0 rfl rfl ?_
  refine am_iconst (i := 0) (v := 0) rfl iL_snapshot_1 ?_
  refine am_aload_n iL_snapshot_2 rfl rfl ?_
  refine am_iload_n iL_snapshot_3 rfl rfl ?_
  refine am_callV (vs := [.int a0]) iL_snapshot_4 cL_snapshot_40 mX6_snapshot (y_K hL hL.2.1 rfl rfl) rfl (Nat.le_of_ble_eq_true rfl) (Nat.le_of_ble_eq_true rfl) (Nat.le_of_ble_eq_true rfl) hc (fun v' m' hq => ?_) (fun z m' hq => ?_)
  · obtain ⟨hp, ⟨h0, e⟩ | ⟨-, a', e, -⟩⟩ := hq
    · cases e
      obtain ⟨m2, G2, E2, N2, rfl, hI2, hR2⟩ := h_end hR hp
      show am_W _ _ _ _ [.int v, .int 0, .ref O] _ _
      refine am_i2l iL_snapshot_7 ?_
      refine am_last iL_snapshot_8 hR2.2.2.2.2.2.1.1 (by rw [show am_L (cm m2 G2 X2 E2) O = 1 from hR2.2.2.2.2.2.1.2.1]; exact vp_in_nI (n := 0) (N := 1) (by decide) (by decide)) ?_
      show am_W _ _ _ _ _ (am_setJ (cm m2 G2 X2 E2) O 0 v.toInt64) _
      rw [cm_setJu hR2.2.2.2.2.2.1.2.2.1]
      refine am_goto iL_snapshot_9 ?_
      refine am_iconst (i := 0) (v := 0) rfl iL_snapshot_15 ?_
      exact am_iret iL_snapshot_16 rfl ⟨by rw [h0], am_setJ m2 O 0 v.toInt64, G2, E2, N2, rfl, hI2, hR2.setJ _, fun _ => if_pos ⟨rfl, rfl⟩⟩
    · cases e
  · obtain ⟨hp, ⟨-, e⟩ | ⟨hn, a', e, hK⟩⟩ := hq
    · cases e
    · cases e
      obtain ⟨m2, G2, E2, N2, rfl, hI2, hR2⟩ := h_end hR hp
      rcases ht with rfl | rfl
      · exact absurd rfl hn
      · refine am_catch [] (0, 9, 12, 13) [] rfl (show am_K _ _ = 8 from hK) (by decide) (by decide) ⟨by decide, by decide⟩ (by decide) wd_186 wd_197 (fun y hy => nomatch hy) ?_
        refine am_astore_n_3 iL_snapshot_12 rfl rfl ?_
        refine am_iconst (i := 1) (v := 1) rfl iL_snapshot_13 ?_
        exact am_iret iL_snapshot_14 rfl ⟨rfl, m2, G2, E2, N2, rfl, hI2, hR2, fun z => absurd z (by decide)⟩
theorem H_snapshot (hS : SVN mm M O X P R N T C) (hC : C ≤ 512) (hT : T + 100 ≤ 1000000) (a0 : Int32) : am_W sc 119 0 [.ref 1, .int a0, .ref O, .retAddr 1] [] mm (am_RE (some (.int ((x_snap X R a0).2.1 0 2))) (fun mm1 => SH mm1 M O X (x_snap X R a0).2 P R (T + 100) (C + 1) (x_snap X R a0).1.toInt64 ((x_snap X R a0).2.1 0 2))) := by
  obtain ⟨m, G, E, rfl, hI, hR⟩ := hS
  have h := h_snapshot (sc := sc) a0 (y_snapshot hI (hR.rm hC) hT a0) (t_snapshot a0) hI.1 hR
  rw [hR.1] at h
  exact h
theorem h_crash {v : Int32} (a0 : Int32) (hc : am_W sc 32 0 [.ref (ca G 1 0), .int a0, .retAddr 1, .retAddr 1] [] (cm m G X E) (y_Q t (kdf t) (.int v) (y_POST m G X2 P R T))) (ht : t = 0 ∨ t = 1) (hL : LC m G P R) (hR : SR m G M O X C) : am_W sc 120 0 [.ref (ca G 1 0), .int a0, .ref O, .retAddr 1] [] (cm m G X E) (am_RE (some (.int t)) (fun mm1 => SH mm1 M O X X2 P R T (C + 1) v.toInt64 t)) := by
  refine am_aload_n iL_crash_0 rfl rfl ?_
  refine am_iconst (i := 0) (v := 0) rfl iL_crash_1 ?_
  refine am_aload_n iL_crash_2 rfl rfl ?_
  refine am_iload_n iL_crash_3 rfl rfl ?_
  refine am_callV (vs := [.int a0]) iL_crash_4 cL_crash_43 mX6_crash (y_K hL hL.2.1 rfl rfl) rfl (Nat.le_of_ble_eq_true rfl) (Nat.le_of_ble_eq_true rfl) (Nat.le_of_ble_eq_true rfl) hc (fun v' m' hq => ?_) (fun z m' hq => ?_)
  · obtain ⟨hp, ⟨h0, e⟩ | ⟨-, a', e, -⟩⟩ := hq
    · cases e
      obtain ⟨m2, G2, E2, N2, rfl, hI2, hR2⟩ := h_end hR hp
      show am_W _ _ _ _ [.int v, .int 0, .ref O] _ _
      refine am_i2l iL_crash_7 ?_
      refine am_last iL_crash_8 hR2.2.2.2.2.2.1.1 (by rw [show am_L (cm m2 G2 X2 E2) O = 1 from hR2.2.2.2.2.2.1.2.1]; exact vp_in_nI (n := 0) (N := 1) (by decide) (by decide)) ?_
      show am_W _ _ _ _ _ (am_setJ (cm m2 G2 X2 E2) O 0 v.toInt64) _
      rw [cm_setJu hR2.2.2.2.2.2.1.2.2.1]
      refine am_goto iL_crash_9 ?_
      refine am_iconst (i := 0) (v := 0) rfl iL_crash_15 ?_
      exact am_iret iL_crash_16 rfl ⟨by rw [h0], am_setJ m2 O 0 v.toInt64, G2, E2, N2, rfl, hI2, hR2.setJ _, fun _ => if_pos ⟨rfl, rfl⟩⟩
    · cases e
  · obtain ⟨hp, ⟨-, e⟩ | ⟨hn, a', e, hK⟩⟩ := hq
    · cases e
    · cases e
      obtain ⟨m2, G2, E2, N2, rfl, hI2, hR2⟩ := h_end hR hp
      rcases ht with rfl | rfl
      · exact absurd rfl hn
      · refine am_catch [] (0, 9, 12, 13) [] rfl (show am_K _ _ = 8 from hK) (by decide) (by decide) ⟨by decide, by decide⟩ (by decide) wd_186 wd_197 (fun y hy => nomatch hy) ?_
        refine am_astore_n_3 iL_crash_12 rfl rfl ?_
        refine am_iconst (i := 1) (v := 1) rfl iL_crash_13 ?_
        exact am_iret iL_crash_14 rfl ⟨rfl, m2, G2, E2, N2, rfl, hI2, hR2, fun z => absurd z (by decide)⟩
theorem H_crash (hS : SVN mm M O X P R N T C) (hC : C ≤ 512) (hT : T + 100 ≤ 1000000) (a0 : Int32) : am_W sc 120 0 [.ref 1, .int a0, .ref O, .retAddr 1] [] mm (am_RE (some (.int ((x_crsh X R a0).2.1 0 2))) (fun mm1 => SH mm1 M O X (x_crsh X R a0).2 P R (T + 100) (C + 1) (x_crsh X R a0).1.toInt64 ((x_crsh X R a0).2.1 0 2))) := by
  obtain ⟨m, G, E, rfl, hI, hR⟩ := hS
  have h := h_crash (sc := sc) a0 (y_crash hI (hR.rm hC) hT a0) (t_crash a0) hI.1 hR
  rw [hR.1] at h
  exact h
theorem h_ask {v : Int32} (a0 : Int32) (a1 : Int64) (a2 : Int32) (a3 : Int32) (a4 : Int32) (a5 : Int32) (hc : am_W sc 34 0 [.ref (ca G 1 0), .int a0, .long a1, .retAddr 1, .int a2, .int a3, .int a4, .int a5, .retAddr 1, .retAddr 1, .retAddr 1] [] (cm m G X E) (y_Q t (kdf t) (.int v) (y_POST m G X2 P R T))) (ht : t = 0 ∨ t = 1 ∨ t = 2 ∨ t = 3) (hL : LC m G P R) (hR : SR m G M O X C) : am_W sc 121 0 [.ref (ca G 1 0), .int a0, .long a1, .retAddr 1, .int a2, .int a3, .int a4, .int a5, .ref O, .retAddr 1] [] (cm m G X E) (am_RE (some (.int t)) (fun mm1 => SH mm1 M O X X2 P R T (C + 1) v.toInt64 t)) := by
  refine am_aload iL_ask_0 rfl ?_
  refine am_iconst (i := 0) (v := 0) rfl iL_ask_2 ?_
  refine am_aload_n iL_ask_3 rfl rfl ?_
  refine am_iload_n iL_ask_4 rfl rfl ?_
  refine am_lload_n iL_ask_5 rfl rfl ?_
  refine am_iload iL_ask_6 rfl ?_
  refine am_iload iL_ask_8 rfl ?_
  refine am_iload iL_ask_10 rfl ?_
  refine am_iload iL_ask_12 rfl ?_
  refine am_callV (vs := [.int a0, .long a1, .int a2, .int a3, .int a4, .int a5]) iL_ask_14 cL_ask_46 mX6_ask (y_K hL hL.2.1 rfl rfl) rfl (Nat.le_of_ble_eq_true rfl) (Nat.le_of_ble_eq_true rfl) (Nat.le_of_ble_eq_true rfl) hc (fun v' m' hq => ?_) (fun z m' hq => ?_)
  · obtain ⟨hp, ⟨h0, e⟩ | ⟨-, a', e, -⟩⟩ := hq
    · cases e
      obtain ⟨m2, G2, E2, N2, rfl, hI2, hR2⟩ := h_end hR hp
      show am_W _ _ _ _ [.int v, .int 0, .ref O] _ _
      refine am_i2l iL_ask_17 ?_
      refine am_last iL_ask_18 hR2.2.2.2.2.2.1.1 (by rw [show am_L (cm m2 G2 X2 E2) O = 1 from hR2.2.2.2.2.2.1.2.1]; exact vp_in_nI (n := 0) (N := 1) (by decide) (by decide)) ?_
      show am_W _ _ _ _ _ (am_setJ (cm m2 G2 X2 E2) O 0 v.toInt64) _
      rw [cm_setJu hR2.2.2.2.2.2.1.2.2.1]
      refine am_goto iL_ask_19 ?_
      refine am_iconst (i := 0) (v := 0) rfl iL_ask_34 ?_
      exact am_iret iL_ask_35 rfl ⟨by rw [h0], am_setJ m2 O 0 v.toInt64, G2, E2, N2, rfl, hI2, hR2.setJ _, fun _ => if_pos ⟨rfl, rfl⟩⟩
    · cases e
  · obtain ⟨hp, ⟨-, e⟩ | ⟨hn, a', e, hK⟩⟩ := hq
    · cases e
    · cases e
      obtain ⟨m2, G2, E2, N2, rfl, hI2, hR2⟩ := h_end hR hp
      rcases ht with rfl | rfl | rfl | rfl
      · exact absurd rfl hn
      · refine am_catch [] (0, 19, 22, 13) [(0, 19, 26, 15), (0, 19, 30, 24)] rfl (show am_K _ _ = 8 from hK) (by decide) (by decide) ⟨by decide, by decide⟩ (by decide) wd_186 wd_197 (fun y hy => nomatch hy) ?_
        refine am_astore_9 iL_ask_22 rfl rfl ?_
        refine am_iconst (i := 1) (v := 1) rfl iL_ask_24 ?_
        exact am_iret iL_ask_25 rfl ⟨rfl, m2, G2, E2, N2, rfl, hI2, hR2, fun z => absurd z (by decide)⟩
      · refine am_catch [(0, 19, 22, 13)] (0, 19, 26, 15) [(0, 19, 30, 24)] rfl (show am_K _ _ = 9 from hK) (by decide) (by decide) ⟨by decide, by decide⟩ (by decide) wd_187 wd_268 (fun y hy => by rw [List.mem_singleton] at hy; subst hy; exact ⟨by decide, _, wd_186, List.Mem.head _⟩) ?_
        refine am_astore_9 iL_ask_26 rfl rfl ?_
        refine am_iconst (i := 2) (v := 2) rfl iL_ask_28 ?_
        exact am_iret iL_ask_29 rfl ⟨rfl, m2, G2, E2, N2, rfl, hI2, hR2, fun z => absurd z (by decide)⟩
      · refine am_catch [(0, 19, 22, 13), (0, 19, 26, 15)] (0, 19, 30, 24) [] rfl (show am_K _ _ = 10 from hK) (by decide) (by decide) ⟨by decide, by decide⟩ (by decide) wd_349 wd_357 (fun y hy => by rw [List.mem_cons, List.mem_singleton] at hy; rcases hy with rfl | rfl; exact ⟨by decide, _, wd_186, List.Mem.tail _ (List.Mem.head _)⟩; exact ⟨by decide, _, wd_187, List.Mem.tail _ (List.Mem.tail _ (List.Mem.head _))⟩) ?_
        refine am_astore_9 iL_ask_30 rfl rfl ?_
        refine am_iconst (i := 3) (v := 3) rfl iL_ask_32 ?_
        exact am_iret iL_ask_33 rfl ⟨rfl, m2, G2, E2, N2, rfl, hI2, hR2, fun z => absurd z (by decide)⟩
theorem H_ask (hS : SVN mm M O X P R N T C) (hC : C ≤ 512) (hT : T + 100 ≤ 1000000) (a0 : Int32) (a1 : Int64) (a2 : Int32) (a3 : Int32) (a4 : Int32) (a5 : Int32) : am_W sc 121 0 [.ref 1, .int a0, .long a1, .retAddr 1, .int a2, .int a3, .int a4, .int a5, .ref O, .retAddr 1] [] mm (am_RE (some (.int ((x_ask X P R N a0 a1 a2 a3 a4 a5).2.1 0 2))) (fun mm1 => SH mm1 M O X (x_ask X P R N a0 a1 a2 a3 a4 a5).2 P R (T + 100) (C + 1) (x_ask X P R N a0 a1 a2 a3 a4 a5).1.toInt64 ((x_ask X P R N a0 a1 a2 a3 a4 a5).2.1 0 2))) := by
  obtain ⟨m, G, E, rfl, hI, hR⟩ := hS
  have h := h_ask (sc := sc) a0 a1 a2 a3 a4 a5 (y_ask hI (hR.rm hC) hT a0 a1 a2 a3 a4 a5) (t_ask a0 a1 a2 a3 a4 a5) hI.1 hR
  rw [hR.1] at h
  exact h
theorem h_read {v : Int64} (a0 : Int32) (a1 : Int32) (hc : am_W sc 35 0 [.ref (ca G 1 0), .int a0, .int a1, .retAddr 1] [] (cm m G X E) (y_Q t (kdf t) (.long v) (y_POST m G X2 P R T))) (ht : t = 0 ∨ t = 1) (hL : LC m G P R) (hR : SR m G M O X C) : am_W sc 122 0 [.ref (ca G 1 0), .int a0, .int a1, .ref O, .retAddr 1] [] (cm m G X E) (am_RE (some (.int t)) (fun mm1 => SH mm1 M O X X2 P R T (C + 1) v t)) := by
  refine am_aload_n iL_read_0 rfl rfl ?_
  refine am_iconst (i := 0) (v := 0) rfl iL_read_1 ?_
  refine am_aload_n iL_read_2 rfl rfl ?_
  refine am_iload_n iL_read_3 rfl rfl ?_
  refine am_iload_n iL_read_4 rfl rfl ?_
  refine am_callV (vs := [.int a0, .int a1]) iL_read_5 cL_read_50 mX6_read (y_K hL hL.2.1 rfl rfl) rfl (Nat.le_of_ble_eq_true rfl) (Nat.le_of_ble_eq_true rfl) (Nat.le_of_ble_eq_true rfl) hc (fun v' m' hq => ?_) (fun z m' hq => ?_)
  · obtain ⟨hp, ⟨h0, e⟩ | ⟨-, a', e, -⟩⟩ := hq
    · cases e
      obtain ⟨m2, G2, E2, N2, rfl, hI2, hR2⟩ := h_end hR hp
      show am_W _ _ _ _ [.long v, .int 0, .ref O] _ _
      refine am_last iL_read_8 hR2.2.2.2.2.2.1.1 (by rw [show am_L (cm m2 G2 X2 E2) O = 1 from hR2.2.2.2.2.2.1.2.1]; exact vp_in_nI (n := 0) (N := 1) (by decide) (by decide)) ?_
      show am_W _ _ _ _ _ (am_setJ (cm m2 G2 X2 E2) O 0 v) _
      rw [cm_setJu hR2.2.2.2.2.2.1.2.2.1]
      refine am_goto iL_read_9 ?_
      refine am_iconst (i := 0) (v := 0) rfl iL_read_16 ?_
      exact am_iret iL_read_17 rfl ⟨by rw [h0], am_setJ m2 O 0 v, G2, E2, N2, rfl, hI2, hR2.setJ _, fun _ => if_pos ⟨rfl, rfl⟩⟩
    · cases e
  · obtain ⟨hp, ⟨-, e⟩ | ⟨hn, a', e, hK⟩⟩ := hq
    · cases e
    · cases e
      obtain ⟨m2, G2, E2, N2, rfl, hI2, hR2⟩ := h_end hR hp
      rcases ht with rfl | rfl
      · exact absurd rfl hn
      · refine am_catch [] (0, 9, 12, 13) [] rfl (show am_K _ _ = 8 from hK) (by decide) (by decide) ⟨by decide, by decide⟩ (by decide) wd_186 wd_197 (fun y hy => nomatch hy) ?_
        refine am_astore_4 iL_read_12 rfl rfl ?_
        refine am_iconst (i := 1) (v := 1) rfl iL_read_14 ?_
        exact am_iret iL_read_15 rfl ⟨rfl, m2, G2, E2, N2, rfl, hI2, hR2, fun z => absurd z (by decide)⟩
theorem H_read (hS : SVN mm M O X P R N T C) (hC : C ≤ 512) (hT : T + 100 ≤ 1000000) (a0 : Int32) (a1 : Int32) : am_W sc 122 0 [.ref 1, .int a0, .int a1, .ref O, .retAddr 1] [] mm (am_RE (some (.int ((x_read X N a0 a1).2.1 0 2))) (fun mm1 => SH mm1 M O X (x_read X N a0 a1).2 P R (T + 100) (C + 1) (x_read X N a0 a1).1 ((x_read X N a0 a1).2.1 0 2))) := by
  obtain ⟨m, G, E, rfl, hI, hR⟩ := hS
  have h := h_read (sc := sc) a0 a1 (y_read hI (hR.rm hC) hT a0 a1) (t_read a0 a1) hI.1 hR
  rw [hR.1] at h
  exact h
theorem h_value {v : Int64} (a0 : Int32) (a1 : Int32) (a2 : Int32) (hc : am_W sc 36 0 [.ref (ca G 1 0), .int a0, .int a1, .int a2] [] (cm m G X E) (y_Q t (kdf t) (.long v) (y_POST m G X2 P R T))) (ht : t = 0 ∨ t = 1) (hL : LC m G P R) (hR : SR m G M O X C) : am_W sc 123 0 [.ref (ca G 1 0), .int a0, .int a1, .int a2, .ref O, .retAddr 1] [] (cm m G X E) (am_RE (some (.int t)) (fun mm1 => SH mm1 M O X X2 P R T (C + 1) v t)) := by
  refine am_aload iL_value_0 rfl ?_
  refine am_iconst (i := 0) (v := 0) rfl iL_value_2 ?_
  refine am_aload_n iL_value_3 rfl rfl ?_
  refine am_iload_n iL_value_4 rfl rfl ?_
  refine am_iload_n iL_value_5 rfl rfl ?_
  refine am_iload_n iL_value_6 rfl rfl ?_
  refine am_callV (vs := [.int a0, .int a1, .int a2]) iL_value_7 cL_value_54 mX6_value (y_K hL hL.2.1 rfl rfl) rfl (Nat.le_of_ble_eq_true rfl) (Nat.le_of_ble_eq_true rfl) (Nat.le_of_ble_eq_true rfl) hc (fun v' m' hq => ?_) (fun z m' hq => ?_)
  · obtain ⟨hp, ⟨h0, e⟩ | ⟨-, a', e, -⟩⟩ := hq
    · cases e
      obtain ⟨m2, G2, E2, N2, rfl, hI2, hR2⟩ := h_end hR hp
      show am_W _ _ _ _ [.long v, .int 0, .ref O] _ _
      refine am_last iL_value_10 hR2.2.2.2.2.2.1.1 (by rw [show am_L (cm m2 G2 X2 E2) O = 1 from hR2.2.2.2.2.2.1.2.1]; exact vp_in_nI (n := 0) (N := 1) (by decide) (by decide)) ?_
      show am_W _ _ _ _ _ (am_setJ (cm m2 G2 X2 E2) O 0 v) _
      rw [cm_setJu hR2.2.2.2.2.2.1.2.2.1]
      refine am_goto iL_value_11 ?_
      refine am_iconst (i := 0) (v := 0) rfl iL_value_18 ?_
      exact am_iret iL_value_19 rfl ⟨by rw [h0], am_setJ m2 O 0 v, G2, E2, N2, rfl, hI2, hR2.setJ _, fun _ => if_pos ⟨rfl, rfl⟩⟩
    · cases e
  · obtain ⟨hp, ⟨-, e⟩ | ⟨hn, a', e, hK⟩⟩ := hq
    · cases e
    · cases e
      obtain ⟨m2, G2, E2, N2, rfl, hI2, hR2⟩ := h_end hR hp
      rcases ht with rfl | rfl
      · exact absurd rfl hn
      · refine am_catch [] (0, 11, 14, 13) [] rfl (show am_K _ _ = 8 from hK) (by decide) (by decide) ⟨by decide, by decide⟩ (by decide) wd_186 wd_197 (fun y hy => nomatch hy) ?_
        refine am_astore_5 iL_value_14 rfl rfl ?_
        refine am_iconst (i := 1) (v := 1) rfl iL_value_16 ?_
        exact am_iret iL_value_17 rfl ⟨rfl, m2, G2, E2, N2, rfl, hI2, hR2, fun z => absurd z (by decide)⟩
theorem H_value (hS : SVN mm M O X P R N T C) (hC : C ≤ 512) (hT : T + 100 ≤ 1000000) (a0 : Int32) (a1 : Int32) (a2 : Int32) : am_W sc 123 0 [.ref 1, .int a0, .int a1, .int a2, .ref O, .retAddr 1] [] mm (am_RE (some (.int ((x_value X P R a0 a1 a2).2.1 0 2))) (fun mm1 => SH mm1 M O X (x_value X P R a0 a1 a2).2 P R (T + 100) (C + 1) (x_value X P R a0 a1 a2).1 ((x_value X P R a0 a1 a2).2.1 0 2))) := by
  obtain ⟨m, G, E, rfl, hI, hR⟩ := hS
  have h := h_value (sc := sc) a0 a1 a2 (y_value hI (hR.rm hC) hT a0 a1 a2) (t_value a0 a1 a2) hI.1 hR
  rw [hR.1] at h
  exact h
theorem h_at {v : Int32} (a0 : Int32) (a1 : Int32) (hc : am_W sc 37 0 [.ref (ca G 1 0), .int a0, .int a1] [] (cm m G X E) (y_Q t (kdf t) (.int v) (y_POST m G X2 P R T))) (ht : t = 0 ∨ t = 1) (hL : LC m G P R) (hR : SR m G M O X C) : am_W sc 124 0 [.ref (ca G 1 0), .int a0, .int a1, .ref O, .retAddr 1] [] (cm m G X E) (am_RE (some (.int t)) (fun mm1 => SH mm1 M O X X2 P R T (C + 1) v.toInt64 t)) := by
  refine am_aload_n iL_at_0 rfl rfl ?_
  refine am_iconst (i := 0) (v := 0) rfl iL_at_1 ?_
  refine am_aload_n iL_at_2 rfl rfl ?_
  refine am_iload_n iL_at_3 rfl rfl ?_
  refine am_iload_n iL_at_4 rfl rfl ?_
  refine am_callV (vs := [.int a0, .int a1]) iL_at_5 cL_at_58 mX6_at (y_K hL hL.2.1 rfl rfl) rfl (Nat.le_of_ble_eq_true rfl) (Nat.le_of_ble_eq_true rfl) (Nat.le_of_ble_eq_true rfl) hc (fun v' m' hq => ?_) (fun z m' hq => ?_)
  · obtain ⟨hp, ⟨h0, e⟩ | ⟨-, a', e, -⟩⟩ := hq
    · cases e
      obtain ⟨m2, G2, E2, N2, rfl, hI2, hR2⟩ := h_end hR hp
      show am_W _ _ _ _ [.int v, .int 0, .ref O] _ _
      refine am_i2l iL_at_8 ?_
      refine am_last iL_at_9 hR2.2.2.2.2.2.1.1 (by rw [show am_L (cm m2 G2 X2 E2) O = 1 from hR2.2.2.2.2.2.1.2.1]; exact vp_in_nI (n := 0) (N := 1) (by decide) (by decide)) ?_
      show am_W _ _ _ _ _ (am_setJ (cm m2 G2 X2 E2) O 0 v.toInt64) _
      rw [cm_setJu hR2.2.2.2.2.2.1.2.2.1]
      refine am_goto iL_at_10 ?_
      refine am_iconst (i := 0) (v := 0) rfl iL_at_17 ?_
      exact am_iret iL_at_18 rfl ⟨by rw [h0], am_setJ m2 O 0 v.toInt64, G2, E2, N2, rfl, hI2, hR2.setJ _, fun _ => if_pos ⟨rfl, rfl⟩⟩
    · cases e
  · obtain ⟨hp, ⟨-, e⟩ | ⟨hn, a', e, hK⟩⟩ := hq
    · cases e
    · cases e
      obtain ⟨m2, G2, E2, N2, rfl, hI2, hR2⟩ := h_end hR hp
      rcases ht with rfl | rfl
      · exact absurd rfl hn
      · refine am_catch [] (0, 10, 13, 13) [] rfl (show am_K _ _ = 8 from hK) (by decide) (by decide) ⟨by decide, by decide⟩ (by decide) wd_186 wd_197 (fun y hy => nomatch hy) ?_
        refine am_astore_4 iL_at_13 rfl rfl ?_
        refine am_iconst (i := 1) (v := 1) rfl iL_at_15 ?_
        exact am_iret iL_at_16 rfl ⟨rfl, m2, G2, E2, N2, rfl, hI2, hR2, fun z => absurd z (by decide)⟩
theorem H_at (hS : SVN mm M O X P R N T C) (hC : C ≤ 512) (hT : T + 100 ≤ 1000000) (a0 : Int32) (a1 : Int32) : am_W sc 124 0 [.ref 1, .int a0, .int a1, .ref O, .retAddr 1] [] mm (am_RE (some (.int ((x_at X P R a0 a1).2.1 0 2))) (fun mm1 => SH mm1 M O X (x_at X P R a0 a1).2 P R (T + 100) (C + 1) (x_at X P R a0 a1).1.toInt64 ((x_at X P R a0 a1).2.1 0 2))) := by
  obtain ⟨m, G, E, rfl, hI, hR⟩ := hS
  have h := h_at (sc := sc) a0 a1 (y_at hI (hR.rm hC) hT a0 a1) (t_at a0 a1) hI.1 hR
  rw [hR.1] at h
  exact h
theorem h_kept {v : Int32} (a0 : Int32) (a1 : Int32) (hc : am_W sc 38 0 [.ref (ca G 1 0), .int a0, .int a1] [] (cm m G X E) (y_Q t (kdf t) (.int v) (y_POST m G X2 P R T))) (ht : t = 0 ∨ t = 1) (hL : LC m G P R) (hR : SR m G M O X C) : am_W sc 125 0 [.ref (ca G 1 0), .int a0, .int a1, .ref O, .retAddr 1] [] (cm m G X E) (am_RE (some (.int t)) (fun mm1 => SH mm1 M O X X2 P R T (C + 1) v.toInt64 t)) := by
  refine am_aload_n iL_kept_0 rfl rfl ?_
  refine am_iconst (i := 0) (v := 0) rfl iL_kept_1 ?_
  refine am_aload_n iL_kept_2 rfl rfl ?_
  refine am_iload_n iL_kept_3 rfl rfl ?_
  refine am_iload_n iL_kept_4 rfl rfl ?_
  refine am_callV (vs := [.int a0, .int a1]) iL_kept_5 cL_kept_61 mX6_kept (y_K hL hL.2.1 rfl rfl) rfl (Nat.le_of_ble_eq_true rfl) (Nat.le_of_ble_eq_true rfl) (Nat.le_of_ble_eq_true rfl) hc (fun v' m' hq => ?_) (fun z m' hq => ?_)
  · obtain ⟨hp, ⟨h0, e⟩ | ⟨-, a', e, -⟩⟩ := hq
    · cases e
      obtain ⟨m2, G2, E2, N2, rfl, hI2, hR2⟩ := h_end hR hp
      show am_W _ _ _ _ [.int v, .int 0, .ref O] _ _
      refine am_i2l iL_kept_8 ?_
      refine am_last iL_kept_9 hR2.2.2.2.2.2.1.1 (by rw [show am_L (cm m2 G2 X2 E2) O = 1 from hR2.2.2.2.2.2.1.2.1]; exact vp_in_nI (n := 0) (N := 1) (by decide) (by decide)) ?_
      show am_W _ _ _ _ _ (am_setJ (cm m2 G2 X2 E2) O 0 v.toInt64) _
      rw [cm_setJu hR2.2.2.2.2.2.1.2.2.1]
      refine am_goto iL_kept_10 ?_
      refine am_iconst (i := 0) (v := 0) rfl iL_kept_17 ?_
      exact am_iret iL_kept_18 rfl ⟨by rw [h0], am_setJ m2 O 0 v.toInt64, G2, E2, N2, rfl, hI2, hR2.setJ _, fun _ => if_pos ⟨rfl, rfl⟩⟩
    · cases e
  · obtain ⟨hp, ⟨-, e⟩ | ⟨hn, a', e, hK⟩⟩ := hq
    · cases e
    · cases e
      obtain ⟨m2, G2, E2, N2, rfl, hI2, hR2⟩ := h_end hR hp
      rcases ht with rfl | rfl
      · exact absurd rfl hn
      · refine am_catch [] (0, 10, 13, 13) [] rfl (show am_K _ _ = 8 from hK) (by decide) (by decide) ⟨by decide, by decide⟩ (by decide) wd_186 wd_197 (fun y hy => nomatch hy) ?_
        refine am_astore_4 iL_kept_13 rfl rfl ?_
        refine am_iconst (i := 1) (v := 1) rfl iL_kept_15 ?_
        exact am_iret iL_kept_16 rfl ⟨rfl, m2, G2, E2, N2, rfl, hI2, hR2, fun z => absurd z (by decide)⟩
theorem H_kept (hS : SVN mm M O X P R N T C) (hC : C ≤ 512) (hT : T + 100 ≤ 1000000) (a0 : Int32) (a1 : Int32) : am_W sc 125 0 [.ref 1, .int a0, .int a1, .ref O, .retAddr 1] [] mm (am_RE (some (.int ((x_kept X P R a0 a1).2.1 0 2))) (fun mm1 => SH mm1 M O X (x_kept X P R a0 a1).2 P R (T + 100) (C + 1) (x_kept X P R a0 a1).1.toInt64 ((x_kept X P R a0 a1).2.1 0 2))) := by
  obtain ⟨m, G, E, rfl, hI, hR⟩ := hS
  have h := h_kept (sc := sc) a0 a1 (y_kept hI (hR.rm hC) hT a0 a1) (t_kept a0 a1) hI.1 hR
  rw [hR.1] at h
  exact h
theorem h_log {v : Int32} (a0 : Int32) (a1 : Int32) (hc : am_W sc 39 0 [.ref (ca G 1 0), .int a0, .int a1] [] (cm m G X E) (y_Q t (kdf t) (.int v) (y_POST m G X2 P R T))) (ht : t = 0 ∨ t = 1) (hL : LC m G P R) (hR : SR m G M O X C) : am_W sc 126 0 [.ref (ca G 1 0), .int a0, .int a1, .ref O, .retAddr 1] [] (cm m G X E) (am_RE (some (.int t)) (fun mm1 => SH mm1 M O X X2 P R T (C + 1) v.toInt64 t)) := by
  refine am_aload_n iL_log_0 rfl rfl ?_
  refine am_iconst (i := 0) (v := 0) rfl iL_log_1 ?_
  refine am_aload_n iL_log_2 rfl rfl ?_
  refine am_iload_n iL_log_3 rfl rfl ?_
  refine am_iload_n iL_log_4 rfl rfl ?_
  refine am_callV (vs := [.int a0, .int a1]) iL_log_5 cL_log_64 mX6_log (y_K hL hL.2.1 rfl rfl) rfl (Nat.le_of_ble_eq_true rfl) (Nat.le_of_ble_eq_true rfl) (Nat.le_of_ble_eq_true rfl) hc (fun v' m' hq => ?_) (fun z m' hq => ?_)
  · obtain ⟨hp, ⟨h0, e⟩ | ⟨-, a', e, -⟩⟩ := hq
    · cases e
      obtain ⟨m2, G2, E2, N2, rfl, hI2, hR2⟩ := h_end hR hp
      show am_W _ _ _ _ [.int v, .int 0, .ref O] _ _
      refine am_i2l iL_log_8 ?_
      refine am_last iL_log_9 hR2.2.2.2.2.2.1.1 (by rw [show am_L (cm m2 G2 X2 E2) O = 1 from hR2.2.2.2.2.2.1.2.1]; exact vp_in_nI (n := 0) (N := 1) (by decide) (by decide)) ?_
      show am_W _ _ _ _ _ (am_setJ (cm m2 G2 X2 E2) O 0 v.toInt64) _
      rw [cm_setJu hR2.2.2.2.2.2.1.2.2.1]
      refine am_goto iL_log_10 ?_
      refine am_iconst (i := 0) (v := 0) rfl iL_log_17 ?_
      exact am_iret iL_log_18 rfl ⟨by rw [h0], am_setJ m2 O 0 v.toInt64, G2, E2, N2, rfl, hI2, hR2.setJ _, fun _ => if_pos ⟨rfl, rfl⟩⟩
    · cases e
  · obtain ⟨hp, ⟨-, e⟩ | ⟨hn, a', e, hK⟩⟩ := hq
    · cases e
    · cases e
      obtain ⟨m2, G2, E2, N2, rfl, hI2, hR2⟩ := h_end hR hp
      rcases ht with rfl | rfl
      · exact absurd rfl hn
      · refine am_catch [] (0, 10, 13, 13) [] rfl (show am_K _ _ = 8 from hK) (by decide) (by decide) ⟨by decide, by decide⟩ (by decide) wd_186 wd_197 (fun y hy => nomatch hy) ?_
        refine am_astore_4 iL_log_13 rfl rfl ?_
        refine am_iconst (i := 1) (v := 1) rfl iL_log_15 ?_
        exact am_iret iL_log_16 rfl ⟨rfl, m2, G2, E2, N2, rfl, hI2, hR2, fun z => absurd z (by decide)⟩
theorem H_log (hS : SVN mm M O X P R N T C) (hC : C ≤ 512) (hT : T + 100 ≤ 1000000) (a0 : Int32) (a1 : Int32) : am_W sc 126 0 [.ref 1, .int a0, .int a1, .ref O, .retAddr 1] [] mm (am_RE (some (.int ((x_log X P a0 a1).2.1 0 2))) (fun mm1 => SH mm1 M O X (x_log X P a0 a1).2 P R (T + 100) (C + 1) (x_log X P a0 a1).1.toInt64 ((x_log X P a0 a1).2.1 0 2))) := by
  obtain ⟨m, G, E, rfl, hI, hR⟩ := hS
  have h := h_log (sc := sc) a0 a1 (y_log hI (hR.rm hC) hT a0 a1) (t_log a0 a1) hI.1 hR
  rw [hR.1] at h
  exact h
theorem h_logged {v : Int32} (a0 : Int32) (a1 : Int32) (a2 : Int32) (hc : am_W sc 40 0 [.ref (ca G 1 0), .int a0, .int a1, .int a2, .retAddr 1] [] (cm m G X E) (y_Q t (kdf t) (.int v) (y_POST m G X2 P R T))) (ht : t = 0 ∨ t = 1) (hL : LC m G P R) (hR : SR m G M O X C) : am_W sc 127 0 [.ref (ca G 1 0), .int a0, .int a1, .int a2, .ref O, .retAddr 1] [] (cm m G X E) (am_RE (some (.int t)) (fun mm1 => SH mm1 M O X X2 P R T (C + 1) v.toInt64 t)) := by
  refine am_aload iL_logged_0 rfl ?_
  refine am_iconst (i := 0) (v := 0) rfl iL_logged_2 ?_
  refine am_aload_n iL_logged_3 rfl rfl ?_
  refine am_iload_n iL_logged_4 rfl rfl ?_
  refine am_iload_n iL_logged_5 rfl rfl ?_
  refine am_iload_n iL_logged_6 rfl rfl ?_
  refine am_callV (vs := [.int a0, .int a1, .int a2]) iL_logged_7 cL_logged_67 mX6_logged (y_K hL hL.2.1 rfl rfl) rfl (Nat.le_of_ble_eq_true rfl) (Nat.le_of_ble_eq_true rfl) (Nat.le_of_ble_eq_true rfl) hc (fun v' m' hq => ?_) (fun z m' hq => ?_)
  · obtain ⟨hp, ⟨h0, e⟩ | ⟨-, a', e, -⟩⟩ := hq
    · cases e
      obtain ⟨m2, G2, E2, N2, rfl, hI2, hR2⟩ := h_end hR hp
      show am_W _ _ _ _ [.int v, .int 0, .ref O] _ _
      refine am_i2l iL_logged_10 ?_
      refine am_last iL_logged_11 hR2.2.2.2.2.2.1.1 (by rw [show am_L (cm m2 G2 X2 E2) O = 1 from hR2.2.2.2.2.2.1.2.1]; exact vp_in_nI (n := 0) (N := 1) (by decide) (by decide)) ?_
      show am_W _ _ _ _ _ (am_setJ (cm m2 G2 X2 E2) O 0 v.toInt64) _
      rw [cm_setJu hR2.2.2.2.2.2.1.2.2.1]
      refine am_goto iL_logged_12 ?_
      refine am_iconst (i := 0) (v := 0) rfl iL_logged_19 ?_
      exact am_iret iL_logged_20 rfl ⟨by rw [h0], am_setJ m2 O 0 v.toInt64, G2, E2, N2, rfl, hI2, hR2.setJ _, fun _ => if_pos ⟨rfl, rfl⟩⟩
    · cases e
  · obtain ⟨hp, ⟨-, e⟩ | ⟨hn, a', e, hK⟩⟩ := hq
    · cases e
    · cases e
      obtain ⟨m2, G2, E2, N2, rfl, hI2, hR2⟩ := h_end hR hp
      rcases ht with rfl | rfl
      · exact absurd rfl hn
      · refine am_catch [] (0, 12, 15, 13) [] rfl (show am_K _ _ = 8 from hK) (by decide) (by decide) ⟨by decide, by decide⟩ (by decide) wd_186 wd_197 (fun y hy => nomatch hy) ?_
        refine am_astore_5 iL_logged_15 rfl rfl ?_
        refine am_iconst (i := 1) (v := 1) rfl iL_logged_17 ?_
        exact am_iret iL_logged_18 rfl ⟨rfl, m2, G2, E2, N2, rfl, hI2, hR2, fun z => absurd z (by decide)⟩
theorem H_logged (hS : SVN mm M O X P R N T C) (hC : C ≤ 512) (hT : T + 100 ≤ 1000000) (a0 : Int32) (a1 : Int32) (a2 : Int32) : am_W sc 127 0 [.ref 1, .int a0, .int a1, .int a2, .ref O, .retAddr 1] [] mm (am_RE (some (.int ((x_lgd X P a0 a1 a2).2.1 0 2))) (fun mm1 => SH mm1 M O X (x_lgd X P a0 a1 a2).2 P R (T + 100) (C + 1) (x_lgd X P a0 a1 a2).1.toInt64 ((x_lgd X P a0 a1 a2).2.1 0 2))) := by
  obtain ⟨m, G, E, rfl, hI, hR⟩ := hS
  have h := h_logged (sc := sc) a0 a1 a2 (y_logged hI (hR.rm hC) hT a0 a1 a2) (t_logged a0 a1 a2) hI.1 hR
  rw [hR.1] at h
  exact h
theorem h_session {v : Int32} (a0 : Int32) (a1 : Int32) (a2 : Int32) (hc : am_W sc 41 0 [.ref (ca G 1 0), .int a0, .int a1, .int a2, .retAddr 1] [] (cm m G X E) (y_Q t (kdf t) (.int v) (y_POST m G X2 P R T))) (ht : t = 0 ∨ t = 1) (hL : LC m G P R) (hR : SR m G M O X C) : am_W sc 128 0 [.ref (ca G 1 0), .int a0, .int a1, .int a2, .ref O, .retAddr 1] [] (cm m G X E) (am_RE (some (.int t)) (fun mm1 => SH mm1 M O X X2 P R T (C + 1) v.toInt64 t)) := by
  refine am_aload iL_session_0 rfl ?_
  refine am_iconst (i := 0) (v := 0) rfl iL_session_2 ?_
  refine am_aload_n iL_session_3 rfl rfl ?_
  refine am_iload_n iL_session_4 rfl rfl ?_
  refine am_iload_n iL_session_5 rfl rfl ?_
  refine am_iload_n iL_session_6 rfl rfl ?_
  refine am_callV (vs := [.int a0, .int a1, .int a2]) iL_session_7 cL_session_71 mX6_session (y_K hL hL.2.1 rfl rfl) rfl (Nat.le_of_ble_eq_true rfl) (Nat.le_of_ble_eq_true rfl) (Nat.le_of_ble_eq_true rfl) hc (fun v' m' hq => ?_) (fun z m' hq => ?_)
  · obtain ⟨hp, ⟨h0, e⟩ | ⟨-, a', e, -⟩⟩ := hq
    · cases e
      obtain ⟨m2, G2, E2, N2, rfl, hI2, hR2⟩ := h_end hR hp
      show am_W _ _ _ _ [.int v, .int 0, .ref O] _ _
      refine am_i2l iL_session_10 ?_
      refine am_last iL_session_11 hR2.2.2.2.2.2.1.1 (by rw [show am_L (cm m2 G2 X2 E2) O = 1 from hR2.2.2.2.2.2.1.2.1]; exact vp_in_nI (n := 0) (N := 1) (by decide) (by decide)) ?_
      show am_W _ _ _ _ _ (am_setJ (cm m2 G2 X2 E2) O 0 v.toInt64) _
      rw [cm_setJu hR2.2.2.2.2.2.1.2.2.1]
      refine am_goto iL_session_12 ?_
      refine am_iconst (i := 0) (v := 0) rfl iL_session_19 ?_
      exact am_iret iL_session_20 rfl ⟨by rw [h0], am_setJ m2 O 0 v.toInt64, G2, E2, N2, rfl, hI2, hR2.setJ _, fun _ => if_pos ⟨rfl, rfl⟩⟩
    · cases e
  · obtain ⟨hp, ⟨-, e⟩ | ⟨hn, a', e, hK⟩⟩ := hq
    · cases e
    · cases e
      obtain ⟨m2, G2, E2, N2, rfl, hI2, hR2⟩ := h_end hR hp
      rcases ht with rfl | rfl
      · exact absurd rfl hn
      · refine am_catch [] (0, 12, 15, 13) [] rfl (show am_K _ _ = 8 from hK) (by decide) (by decide) ⟨by decide, by decide⟩ (by decide) wd_186 wd_197 (fun y hy => nomatch hy) ?_
        refine am_astore_5 iL_session_15 rfl rfl ?_
        refine am_iconst (i := 1) (v := 1) rfl iL_session_17 ?_
        exact am_iret iL_session_18 rfl ⟨rfl, m2, G2, E2, N2, rfl, hI2, hR2, fun z => absurd z (by decide)⟩
theorem H_session (hS : SVN mm M O X P R N T C) (hC : C ≤ 512) (hT : T + 100 ≤ 1000000) (a0 : Int32) (a1 : Int32) (a2 : Int32) : am_W sc 128 0 [.ref 1, .int a0, .int a1, .int a2, .ref O, .retAddr 1] [] mm (am_RE (some (.int ((x_session X P a0 a1 a2).2.1 0 2))) (fun mm1 => SH mm1 M O X (x_session X P a0 a1 a2).2 P R (T + 100) (C + 1) (x_session X P a0 a1 a2).1.toInt64 ((x_session X P a0 a1 a2).2.1 0 2))) := by
  obtain ⟨m, G, E, rfl, hI, hR⟩ := hS
  have h := h_session (sc := sc) a0 a1 a2 (y_session hI (hR.rm hC) hT a0 a1 a2) (t_session a0 a1 a2) hI.1 hR
  rw [hR.1] at h
  exact h
theorem h_told {v : Int32} (a0 : Int64) (a1 : Int32) (hc : am_W sc 42 0 [.ref (ca G 1 0), .long a0, .retAddr 1, .int a1] [] (cm m G X E) (y_Q t (kdf t) (.int v) (y_POST m G X2 P R T))) (ht : t = 0 ∨ t = 1 ∨ t = 2) (hL : LC m G P R) (hR : SR m G M O X C) : am_W sc 129 0 [.ref (ca G 1 0), .long a0, .retAddr 1, .int a1, .ref O, .retAddr 1] [] (cm m G X E) (am_RE (some (.int t)) (fun mm1 => SH mm1 M O X X2 P R T (C + 1) v.toInt64 t)) := by
  refine am_aload iL_told_0 rfl ?_
  refine am_iconst (i := 0) (v := 0) rfl iL_told_2 ?_
  refine am_aload_n iL_told_3 rfl rfl ?_
  refine am_lload_n iL_told_4 rfl rfl ?_
  refine am_iload_n iL_told_5 rfl rfl ?_
  refine am_callV (vs := [.long a0, .int a1]) iL_told_6 cL_told_74 mX6_told (y_K hL hL.2.1 rfl rfl) rfl (Nat.le_of_ble_eq_true rfl) (Nat.le_of_ble_eq_true rfl) (Nat.le_of_ble_eq_true rfl) hc (fun v' m' hq => ?_) (fun z m' hq => ?_)
  · obtain ⟨hp, ⟨h0, e⟩ | ⟨-, a', e, -⟩⟩ := hq
    · cases e
      obtain ⟨m2, G2, E2, N2, rfl, hI2, hR2⟩ := h_end hR hp
      show am_W _ _ _ _ [.int v, .int 0, .ref O] _ _
      refine am_i2l iL_told_9 ?_
      refine am_last iL_told_10 hR2.2.2.2.2.2.1.1 (by rw [show am_L (cm m2 G2 X2 E2) O = 1 from hR2.2.2.2.2.2.1.2.1]; exact vp_in_nI (n := 0) (N := 1) (by decide) (by decide)) ?_
      show am_W _ _ _ _ _ (am_setJ (cm m2 G2 X2 E2) O 0 v.toInt64) _
      rw [cm_setJu hR2.2.2.2.2.2.1.2.2.1]
      refine am_goto iL_told_11 ?_
      refine am_iconst (i := 0) (v := 0) rfl iL_told_22 ?_
      exact am_iret iL_told_23 rfl ⟨by rw [h0], am_setJ m2 O 0 v.toInt64, G2, E2, N2, rfl, hI2, hR2.setJ _, fun _ => if_pos ⟨rfl, rfl⟩⟩
    · cases e
  · obtain ⟨hp, ⟨-, e⟩ | ⟨hn, a', e, hK⟩⟩ := hq
    · cases e
    · cases e
      obtain ⟨m2, G2, E2, N2, rfl, hI2, hR2⟩ := h_end hR hp
      rcases ht with rfl | rfl | rfl
      · exact absurd rfl hn
      · refine am_catch [] (0, 11, 14, 13) [(0, 11, 18, 15)] rfl (show am_K _ _ = 8 from hK) (by decide) (by decide) ⟨by decide, by decide⟩ (by decide) wd_186 wd_197 (fun y hy => nomatch hy) ?_
        refine am_astore_5 iL_told_14 rfl rfl ?_
        refine am_iconst (i := 1) (v := 1) rfl iL_told_16 ?_
        exact am_iret iL_told_17 rfl ⟨rfl, m2, G2, E2, N2, rfl, hI2, hR2, fun z => absurd z (by decide)⟩
      · refine am_catch [(0, 11, 14, 13)] (0, 11, 18, 15) [] rfl (show am_K _ _ = 9 from hK) (by decide) (by decide) ⟨by decide, by decide⟩ (by decide) wd_187 wd_268 (fun y hy => by rw [List.mem_singleton] at hy; subst hy; exact ⟨by decide, _, wd_186, List.Mem.head _⟩) ?_
        refine am_astore_5 iL_told_18 rfl rfl ?_
        refine am_iconst (i := 2) (v := 2) rfl iL_told_20 ?_
        exact am_iret iL_told_21 rfl ⟨rfl, m2, G2, E2, N2, rfl, hI2, hR2, fun z => absurd z (by decide)⟩
theorem H_told (hS : SVN mm M O X P R N T C) (hC : C ≤ 512) (hT : T + 100 ≤ 1000000) (a0 : Int64) (a1 : Int32) : am_W sc 129 0 [.ref 1, .long a0, .retAddr 1, .int a1, .ref O, .retAddr 1] [] mm (am_RE (some (.int ((x_told X P a0 a1).2.1 0 2))) (fun mm1 => SH mm1 M O X (x_told X P a0 a1).2 P R (T + 100) (C + 1) (x_told X P a0 a1).1.toInt64 ((x_told X P a0 a1).2.1 0 2))) := by
  obtain ⟨m, G, E, rfl, hI, hR⟩ := hS
  have h := h_told (sc := sc) a0 a1 (y_told hI (hR.rm hC) hT a0 a1) (t_told a0 a1) hI.1 hR
  rw [hR.1] at h
  exact h
theorem h_count {v : Int32} (a0 : Int32) (hc : am_W sc 43 0 [.ref (ca G 1 0), .int a0] [] (cm m G X E) (y_Q t (kdf t) (.int v) (y_POST m G X2 P R T))) (ht : t = 0 ∨ t = 1) (hL : LC m G P R) (hR : SR m G M O X C) : am_W sc 130 0 [.ref (ca G 1 0), .int a0, .ref O, .retAddr 1] [] (cm m G X E) (am_RE (some (.int t)) (fun mm1 => SH mm1 M O X X2 P R T (C + 1) v.toInt64 t)) := by
  refine am_aload_n iL_count_0 rfl rfl ?_
  refine am_iconst (i := 0) (v := 0) rfl iL_count_1 ?_
  refine am_aload_n iL_count_2 rfl rfl ?_
  refine am_iload_n iL_count_3 rfl rfl ?_
  refine am_callV (vs := [.int a0]) iL_count_4 cL_count_78 mX6_count (y_K hL hL.2.1 rfl rfl) rfl (Nat.le_of_ble_eq_true rfl) (Nat.le_of_ble_eq_true rfl) (Nat.le_of_ble_eq_true rfl) hc (fun v' m' hq => ?_) (fun z m' hq => ?_)
  · obtain ⟨hp, ⟨h0, e⟩ | ⟨-, a', e, -⟩⟩ := hq
    · cases e
      obtain ⟨m2, G2, E2, N2, rfl, hI2, hR2⟩ := h_end hR hp
      show am_W _ _ _ _ [.int v, .int 0, .ref O] _ _
      refine am_i2l iL_count_7 ?_
      refine am_last iL_count_8 hR2.2.2.2.2.2.1.1 (by rw [show am_L (cm m2 G2 X2 E2) O = 1 from hR2.2.2.2.2.2.1.2.1]; exact vp_in_nI (n := 0) (N := 1) (by decide) (by decide)) ?_
      show am_W _ _ _ _ _ (am_setJ (cm m2 G2 X2 E2) O 0 v.toInt64) _
      rw [cm_setJu hR2.2.2.2.2.2.1.2.2.1]
      refine am_goto iL_count_9 ?_
      refine am_iconst (i := 0) (v := 0) rfl iL_count_15 ?_
      exact am_iret iL_count_16 rfl ⟨by rw [h0], am_setJ m2 O 0 v.toInt64, G2, E2, N2, rfl, hI2, hR2.setJ _, fun _ => if_pos ⟨rfl, rfl⟩⟩
    · cases e
  · obtain ⟨hp, ⟨-, e⟩ | ⟨hn, a', e, hK⟩⟩ := hq
    · cases e
    · cases e
      obtain ⟨m2, G2, E2, N2, rfl, hI2, hR2⟩ := h_end hR hp
      rcases ht with rfl | rfl
      · exact absurd rfl hn
      · refine am_catch [] (0, 9, 12, 13) [] rfl (show am_K _ _ = 8 from hK) (by decide) (by decide) ⟨by decide, by decide⟩ (by decide) wd_186 wd_197 (fun y hy => nomatch hy) ?_
        refine am_astore_n_3 iL_count_12 rfl rfl ?_
        refine am_iconst (i := 1) (v := 1) rfl iL_count_13 ?_
        exact am_iret iL_count_14 rfl ⟨rfl, m2, G2, E2, N2, rfl, hI2, hR2, fun z => absurd z (by decide)⟩
theorem H_count (hS : SVN mm M O X P R N T C) (hC : C ≤ 512) (hT : T + 100 ≤ 1000000) (a0 : Int32) : am_W sc 130 0 [.ref 1, .int a0, .ref O, .retAddr 1] [] mm (am_RE (some (.int ((x_cnt X N a0).2.1 0 2))) (fun mm1 => SH mm1 M O X (x_cnt X N a0).2 P R (T + 100) (C + 1) (x_cnt X N a0).1.toInt64 ((x_cnt X N a0).2.1 0 2))) := by
  obtain ⟨m, G, E, rfl, hI, hR⟩ := hS
  have h := h_count (sc := sc) a0 (y_count hI (hR.rm hC) hT a0) (t_count a0) hI.1 hR
  rw [hR.1] at h
  exact h
theorem t_trim : (x_trim X P R).2.1 0 2 = 0 := x_trN_o _ _ (by decide) _
theorem H_trim (hS : SVN mm M O X P R N T C) (hT : T + 100 ≤ 1000000) : am_W sc 33 0 [.ref 1, .retAddr 1, .retAddr 1] [] mm (am_RE (some (.int (x_trim X P R).1)) (fun mm1 => SH mm1 M O X (x_trim X P R).2 P R (T + 100) (C + 1) 0 1)) := by
  obtain ⟨m, G, E, rfl, hI, hR⟩ := hS
  have h := y_trim (sc := sc) hI hT
  rw [hR.1, t_trim] at h
  refine h.mono (fun o m' hq => ?_)
  obtain ⟨hp, ⟨-, e⟩ | ⟨hn, -⟩⟩ := hq
  · obtain ⟨m2, G2, E2, N2, rfl, hI2, hR2⟩ := h_end hR hp
    exact ⟨e, m2, G2, E2, N2, rfl, hI2, hR2, fun z => absurd z (by decide)⟩
  · exact absurd rfl hn
end
