/-! which code each call leaves -/
section
variable {X : ms_X} {P R N : Nat}
theorem lkR_th (Z : ms_X) : ∀ r, (x_lkR Z P N r).1 0 2 = Z.1 0 2
  | 0 => rfl
  | r + 1 => (x_look_o _ P r (by decide) (by decide) (by decide) (by decide) N).trans (lkR_th Z r)
theorem t_mode (s v : Int32) : (x_mode X P R N s v).2.1 0 2 = 0 ∨ (x_mode X P R N s v).2.1 0 2 = 1 ∨ (x_mode X P R N s v).2.1 0 2 = 2 := by
  unfold x_mode
  split
  · exact Or.inr (Or.inl rfl)
  · split
    · exact Or.inr (Or.inr rfl)
    · refine Or.inl ?_
      show (if X.1 19 (nt s) = v then xU (x_th X 0) 19 (nt s) v else x_lkR (xU (x_th X 0) 19 (nt s) v) P N R).1 0 2 = 0
      split
      · rfl
      · rw [lkR_th]; rfl
theorem t_home (s r : Int32) : (x_home X R s r).2.1 0 2 = 0 ∨ (x_home X R s r).2.1 0 2 = 1 := by
  unfold x_home
  split
  · exact Or.inl rfl
  · exact Or.inr rfl
theorem t_command (s kd it cu am : Int32) : (x_cmd X P s kd it cu am).2.1 0 2 = 0 ∨ (x_cmd X P s kd it cu am).2.1 0 2 = 1 ∨ (x_cmd X P s kd it cu am).2.1 0 2 = 2 ∨ (x_cmd X P s kd it cu am).2.1 0 2 = 3 := by
  unfold x_cmd
  split
  · exact Or.inr (Or.inl rfl)
  · split
    · exact Or.inr (Or.inr (Or.inl rfl))
    · split
      · exact Or.inr (Or.inr (Or.inr rfl))
      · exact Or.inl (x_cmd2_o _ (by decide) (by decide) (by decide) (by decide) (by decide) (by decide) (by decide))
theorem t_step (r p : Int32) : (x_step X P R N r p).2.1 0 2 = 0 ∨ (x_step X P R N r p).2.1 0 2 = 1 := by
  unfold x_step
  split
  · split
    · exact Or.inl rfl
    · exact Or.inl (x_adv_th _ _ _ _ _)
  · exact Or.inr rfl
theorem t_speed (r v : Int32) : (x_speed X R r v).2.1 0 2 = 0 ∨ (x_speed X R r v).2.1 0 2 = 1 ∨ (x_speed X R r v).2.1 0 2 = 2 := by
  unfold x_speed
  split
  · exact Or.inr (Or.inl rfl)
  · split
    · exact Or.inr (Or.inr rfl)
    · exact Or.inl rfl
theorem t_ticks (n : Int32) : (x_ticks X P R N n).2.1 0 2 = 0 ∨ (x_ticks X P R N n).2.1 0 2 = 1 := by
  unfold x_ticks
  split
  · exact Or.inl (x_tksN_th _ _ _ _ _)
  · exact Or.inr rfl
theorem t_up (r b : Int32) : (x_up X P R N r b).2.1 0 2 = 0 ∨ (x_up X P R N r b).2.1 0 2 = 1 := by
  unfold x_up
  split
  · refine Or.inl ?_
    show (if b = 0 then xU (x_th X 0) 18 (nt r) b else if X.1 18 (nt r) = 0 then x_lookN (xU (x_th X 0) 18 (nt r) b) P (nt r) N else xU (x_th X 0) 18 (nt r) b).1 0 2 = 0
    split
    · rfl
    · split
      · exact x_look_o _ P _ (by decide) (by decide) (by decide) (by decide) N
      · rfl
  · exact Or.inr rfl
theorem t_snapshot (r : Int32) : (x_snap X R r).2.1 0 2 = 0 ∨ (x_snap X R r).2.1 0 2 = 1 := by
  unfold x_snap
  split
  · exact Or.inl (x_copy_o _ _ _ (by omega))
  · exact Or.inr rfl
theorem t_crash (r : Int32) : (x_crsh X R r).2.1 0 2 = 0 ∨ (x_crsh X R r).2.1 0 2 = 1 := by
  unfold x_crsh
  split
  · exact Or.inl (x_copy_o _ _ _ (by omega))
  · exact Or.inr rfl
theorem t_ask (s : Int32) (t : Int64) (b p kd a : Int32) : (x_ask X P R N s t b p kd a).2.1 0 2 = 0 ∨ (x_ask X P R N s t b p kd a).2.1 0 2 = 1 ∨ (x_ask X P R N s t b p kd a).2.1 0 2 = 2 ∨ (x_ask X P R N s t b p kd a).2.1 0 2 = 3 := by
  unfold x_ask
  split
  · exact Or.inr (Or.inl rfl)
  · split
    · exact Or.inr (Or.inr (Or.inl rfl))
    · split
      · exact Or.inr (Or.inr (Or.inr rfl))
      · unfold x_ask3
        split
        · exact Or.inr (Or.inr (Or.inr rfl))
        · refine Or.inl ?_
          generalize x_ask0 (x_th X 0) N (nt s) t b p kd a = A
          have hB : (xU (xU (x_th A 0) 0 26 (nI (N + 1))) 23 N 0).1 0 2 = 0 := rfl
          generalize xU (xU (x_th A 0) 0 26 (nI (N + 1))) 23 N 0 = B at hB ⊢
          show (x_ask4 B P R N (nt s) p _).1 0 2 = 0
          unfold x_ask4
          split
          · rw [x_ans_o _ _ _ _ (by decide) (by decide) (by decide) (by decide)]; exact hB
          · split
            · rw [x_fail_o _ _ (by decide) (by decide)]; exact hB
            · exact hB
theorem t_read (k w : Int32) : (x_read X N k w).2.1 0 2 = 0 ∨ (x_read X N k w).2.1 0 2 = 1 := by
  unfold x_read
  split
  · exact Or.inl rfl
  · exact Or.inr rfl
theorem t_value (r kd a : Int32) : (x_value X P R r kd a).2.1 0 2 = 0 ∨ (x_value X P R r kd a).2.1 0 2 = 1 := by
  unfold x_value
  split
  · exact Or.inl rfl
  · exact Or.inr rfl
theorem t_at (r p : Int32) : (x_at X P R r p).2.1 0 2 = 0 ∨ (x_at X P R r p).2.1 0 2 = 1 := by
  unfold x_at
  split
  · exact Or.inl rfl
  · exact Or.inr rfl
theorem t_kept (r p : Int32) : (x_kept X P R r p).2.1 0 2 = 0 ∨ (x_kept X P R r p).2.1 0 2 = 1 := by
  unfold x_kept
  split
  · exact Or.inl rfl
  · exact Or.inr rfl
theorem t_log (p w : Int32) : (x_log X P p w).2.1 0 2 = 0 ∨ (x_log X P p w).2.1 0 2 = 1 := by
  unfold x_log
  split
  · exact Or.inl rfl
  · exact Or.inr rfl
theorem t_logged (p i w : Int32) : (x_lgd X P p i w).2.1 0 2 = 0 ∨ (x_lgd X P p i w).2.1 0 2 = 1 := by
  unfold x_lgd
  split
  · exact Or.inl rfl
  · exact Or.inr rfl
theorem t_session (s w p : Int32) : (x_session X P s w p).2.1 0 2 = 0 ∨ (x_session X P s w p).2.1 0 2 = 1 := by
  unfold x_session
  split
  · exact Or.inl rfl
  · exact Or.inr rfl
theorem t_told (t : Int64) (p : Int32) : (x_told X P t p).2.1 0 2 = 0 ∨ (x_told X P t p).2.1 0 2 = 1 ∨ (x_told X P t p).2.1 0 2 = 2 := by
  unfold x_told
  split
  · exact Or.inr (Or.inl rfl)
  · split
    · exact Or.inr (Or.inr rfl)
    · exact Or.inl rfl
theorem t_count (w : Int32) : (x_cnt X N w).2.1 0 2 = 0 ∨ (x_cnt X N w).2.1 0 2 = 1 := by
  unfold x_cnt
  split
  · exact Or.inl rfl
  · exact Or.inr rfl
end
