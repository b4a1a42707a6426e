/-! the class: the reads that wait -/
def c_sR (m : am_Mem) (a : Nat) (g : Nat → Nat) : am_Mem := (m.1, m.2.1, m.2.2.1, m.2.2.2.1, m.2.2.2.2.1, am_row m.2.2.2.2.2 a g)
theorem c_sR_set {m : am_Mem} {a j v : Nat} {g : Nat → Nat} {G : cg_G} {X E : ms_X} : am_setR (cm (c_sR m a g) G X E) a j v = cm (c_sR m a (fun i => if i = j then v else g i)) G X E := by
  show (m.1, m.2.1, m.2.2.1, c_ov G.1 cvI (yI X E) m.2.2.2.1, c_ov G.1 cvJ (yJ X E) m.2.2.2.2.1, am_put (am_row m.2.2.2.2.2 a g) a j v) = (m.1, m.2.1, m.2.2.1, c_ov G.1 cvI (yI X E) m.2.2.2.1, c_ov G.1 cvJ (yJ X E) m.2.2.2.2.1, am_row m.2.2.2.2.2 a (fun i => if i = j then v else g i))
  have e : am_put (am_row m.2.2.2.2.2 a g) a j v = am_row m.2.2.2.2.2 a (fun i => if i = j then v else g i) := by
    funext b i
    unfold am_put am_row
    by_cases hb : b = a
    · subst hb
      by_cases hi : i = j
      · rw [if_pos ⟨rfl, hi⟩, if_pos rfl]
        exact (if_pos hi).symm
      · rw [if_neg (fun q => hi q.2), if_pos rfl, if_pos rfl]
        exact (if_neg hi).symm
    · rw [if_neg (fun q => hb q.1), if_neg hb, if_neg hb]
  rw [e]
theorem c_sR_id (m : am_Mem) (a : Nat) : c_sR m a (am_R m a) = m := by
  show (m.1, m.2.1, m.2.2.1, m.2.2.2.1, m.2.2.2.2.1, am_row m.2.2.2.2.2 a (m.2.2.2.2.2 a)) = m
  have e : am_row m.2.2.2.2.2 a (m.2.2.2.2.2 a) = m.2.2.2.2.2 := by
    funext b i
    unfold am_row
    split
    · rename_i h; rw [h]
    · rfl
  rw [e]
theorem c_sR_sR (m : am_Mem) (a : Nat) (g g' : Nat → Nat) : c_sR (c_sR m a g) a g' = c_sR m a g' := by
  show (m.1, m.2.1, m.2.2.1, m.2.2.2.1, m.2.2.2.2.1, am_row (am_row m.2.2.2.2.2 a g) a g') = (m.1, m.2.1, m.2.2.1, m.2.2.2.1, m.2.2.2.2.1, am_row m.2.2.2.2.2 a g')
  have e : am_row (am_row m.2.2.2.2.2 a g) a g' = am_row m.2.2.2.2.2 a g' := by
    funext b i
    unfold am_row
    split <;> rfl
  rw [e]
theorem c_sR_R {m : am_Mem} {a : Nat} {g : Nat → Nat} {i : Nat} : am_R (c_sR m a g) a i = g i := if_pos rfl
theorem c_sR_Ro {m : am_Mem} {a b : Nat} {g : Nat → Nat} {i : Nat} (h : b ≠ a) : am_R (c_sR m a g) b i = am_R m b i := if_neg h
theorem cx_inj {G : cg_G} {t n t' n' : Nat} (h : cx G t n) (h' : cx G t' n') (e : ca G t n = ca G t' n') : t = t' ∧ n = n' := by
  have h1 : co G (ca G t n) = (t, n) := h
  have h2 : co G (ca G t' n') = (t', n') := h'
  rw [e, h2] at h1
  exact ⟨(congrArg Prod.fst h1).symm, (congrArg Prod.snd h1).symm⟩
section
variable {sc : Nat × (Nat → Int32)} {m : am_Mem} {G : cg_G} {X X0 E : ms_X} {P R N T : Nat}
theorem LC.w (hL : LC m G P R) : cx G 24 0 := (hL.2.2.1 1 0 4 24 0 hL.2.1 rfl).2
theorem LC.sR (hL : LC m G P R) (g : Nat → Nat) : LC (c_sR m (ca G 24 0) g) G P R := by
  refine ⟨hL.1, hL.2.1, fun t n j t' n' he hr => ?_, hL.2.2.2⟩
  obtain ⟨h1, h2⟩ := hL.2.2.1 t n j t' n' he hr
  refine ⟨?_, h2⟩
  rw [c_sR_Ro]
  · exact h1
  · intro e
    obtain ⟨rfl, -⟩ := cx_inj he hL.w e
    cases hr
theorem y_wald {sc : Nat × (Nat → Int32)} {k pc q : Nat} {ls st : List Value} {Q : am_Out → am_Mem → Prop} {x : Int32} {v : Nat} (i : Nat) (hL : LC m G P R) (hd : am_at k pc .aaload 1 q) (hx : x = nI i) (hb : i < 40) (hv : am_R m (ca G 24 0) i = v) (h : am_W sc k q ls (.ref v :: st) (cm m G X E) Q) : am_W sc k pc ls (.int x :: .ref (ca G 24 0) :: st) (cm m G X E) Q := by
  subst hx
  refine am_aald (ci := 2) hd (y_K hL hL.w rfl rfl) (by decide) (by rw [y_L hL hL.w rfl]; exact vp_in_nI (N := 40) hb (by decide)) ?_
  rw [nI_clamp (by omega)]
  show am_W sc k q ls (.ref (am_R m (ca G 24 0) i) :: st) (cm m G X E) Q
  rw [hv]
  exact h
theorem y_wast {sc : Nat × (Nat → Int32)} {k pc q : Nat} {ls st : List Value} {Q : am_Out → am_Mem → Prop} {x : Int32} {r : Nat} (i : Nat) (hL : LC m G P R) (hr : cx G 17 r) (hd : am_at k pc .aastore 1 q) (hx : x = nI i) (hb : i < 40) (h : am_W sc k q ls st (am_setR (cm m G X E) (ca G 24 0) i (ca G 17 r)) Q) : am_W sc k pc ls (.ref (ca G 17 r) :: .int x :: .ref (ca G 24 0) :: st) (cm m G X E) Q := by
  subst hx
  refine am_aast (ci := 2) hd (y_K hL hL.w rfl rfl) (by decide) (Or.inr (y_K hL hr rfl rfl)) (by rw [y_L hL hL.w rfl]; exact vp_in_nI (N := 40) hb (by decide)) ?_
  rw [nI_clamp (by omega)]
  exact h
/-- the row of those that wait -/
def y_WT (G : cg_G) (X : ms_X) (N : Nat) (g : Nat → Nat) : Prop := ∀ k, k < N → X.1 23 k = 0 → g (x_wtN X 0 k) = ca G 17 k
set_option maxHeartbeats 1000000 in
theorem y_forgetEnded (hL0 : LC m G P R) (hk : ∀ k, k < N → cx G 17 k) (g : Nat → Nat) (hE : E.1 0 0 = nI (x_wtN X0 0 N)) (h40 : x_wtN X0 0 N ≤ 40) (hw : y_WT G X0 N g) (hsub : ∀ k, k < N → X.1 23 k = 0 → X0.1 23 k = 0) :
    am_W sc 62 0 [.ref (ca G 1 0), .retAddr 1, .retAddr 1] [] (cm (c_sR m (ca G 24 0) g) G X E) (am_RE none (fun m' => ∃ g', y_WT G X N g' ∧ m' = cm (c_sR m (ca G 24 0) g') G X (xU E 0 0 (nI (x_wtN X 0 N))))) := by
  have h1 := hL0.2.1
  have key : ∀ d k : Nat, k + d = N → ∀ g : Nat → Nat, (∀ j, j < k → X.1 23 j = 0 → g (x_wtN X 0 j) = ca G 17 j) → (∀ j, k ≤ j → j < N → X0.1 23 j = 0 → g (x_wtN X0 0 j) = ca G 17 j) →
      am_W sc 62 4 [.ref (ca G 1 0), .int (nI (x_wtN X 0 k)), .int (nI (x_wtN X0 0 k))] [] (cm (c_sR m (ca G 24 0) g) G X E) (am_RE none (fun m' => ∃ g', y_WT G X N g' ∧ m' = cm (c_sR m (ca G 24 0) g') G X (xU E 0 0 (nI (x_wtN X 0 N))))) := by
    intro d
    induction d with
    | zero =>
      intro k hkN g hA hB
      have e : N = k := by omega
      subst e
      have hL := hL0.sR g
      refine am_iload_n iX6_forgetEnded_4 rfl rfl ?_
      refine am_aload_n iX6_forgetEnded_5 rfl rfl ?_
      refine y_getE (o := 0) hL (by assumption) iX6_forgetEnded_6 fX6_forgetEnded_158 rfl rfl rfl ?_
      rw [hE]
      refine am_icmp_ge iX6_forgetEnded_9 (fun _ => ?_) (fun hc => absurd (nI_le (Nat.le_refl _) (by omega)) hc)
      refine am_aload_n iX6_forgetEnded_45 rfl rfl ?_
      refine am_iload_n iX6_forgetEnded_46 rfl rfl ?_
      refine y_putE (o := 0) hL (by assumption) iX6_forgetEnded_47 fX6_forgetEnded_158 rfl rfl rfl rfl rfl ?_
      exact am_vret iX6_forgetEnded_50 rfl ⟨rfl, g, fun j hj hs => hA j hj hs, rfl⟩
    | succ d ih =>
      intro k hkN g hA hB
      have hL := hL0.sR g
      by_cases c0 : X0.1 23 k = 0
      · have b1 := wt_lt c0 (show k < N by omega)
        have b2 := wt_mono X0 0 (show k ≤ N by omega)
        have b3 : x_wtN X 0 k ≤ x_wtN X0 0 k := wt_sub k (fun j hj => hsub j (by omega))
        have hrd := hk k (by omega)
        have hg : am_R (c_sR m (ca G 24 0) g) (ca G 24 0) (x_wtN X0 0 k) = ca G 17 k := c_sR_R.trans (hB k (Nat.le_refl _) (by omega) c0)
        refine am_iload_n iX6_forgetEnded_4 rfl rfl ?_
        refine am_aload_n iX6_forgetEnded_5 rfl rfl ?_
        refine y_getE (o := 0) hL (by assumption) iX6_forgetEnded_6 fX6_forgetEnded_158 rfl rfl rfl ?_
        rw [hE]
        refine am_icmp_ge iX6_forgetEnded_9 (fun hc => absurd hc (fun q => absurd ((nI_leI (by omega) (by omega)).mp q) (by omega))) (fun _ => ?_)
        refine am_aload_n iX6_forgetEnded_12 rfl rfl ?_
        refine y_getR hL (by assumption) iX6_forgetEnded_13 fX6_forgetEnded_36 rfl rfl rfl (fun _ => ?_)
        refine am_iload_n iX6_forgetEnded_16 rfl rfl ?_
        refine y_wald (x_wtN X0 0 k) hL iX6_forgetEnded_17 rfl (by omega) hg ?_
        refine y_getI (o := 23) hL (by assumption) iX6_forgetEnded_18 fX6_forgetEnded_171 rfl rfl rfl rfl ?_
        refine am_if_ne iX6_forgetEnded_21 (fun h2 => ?_) (fun h2 => ?_)
        · refine am_iinc_2 1 iX6_forgetEnded_39 rfl rfl rfl ?_
          refine am_goto iX6_forgetEnded_42 ?_
          rw [nI_1, ← wt_s c0, ← wt_n h2]
          exact ih (k + 1) (by omega) g (fun j hj hs => hA j (by
            rcases Nat.lt_or_ge j k with q | q
            · exact q
            · exact absurd (show X.1 23 k = 0 by rw [show k = j by omega]; exact hs) h2) hs) (fun j h1 h2 h3 => hB j (by omega) h2 h3)
        · refine am_aload_n iX6_forgetEnded_24 rfl rfl ?_
          refine y_getR hL (by assumption) iX6_forgetEnded_25 fX6_forgetEnded_36 rfl rfl rfl (fun _ => ?_)
          refine am_iload_n iX6_forgetEnded_28 rfl rfl ?_
          refine am_aload_n iX6_forgetEnded_29 rfl rfl ?_
          refine y_getR hL (by assumption) iX6_forgetEnded_30 fX6_forgetEnded_36 rfl rfl rfl (fun _ => ?_)
          refine am_iload_n iX6_forgetEnded_33 rfl rfl ?_
          refine y_wald (x_wtN X0 0 k) hL iX6_forgetEnded_34 rfl (by omega) hg ?_
          refine y_wast (x_wtN X 0 k) hL hrd iX6_forgetEnded_35 rfl (by omega) ?_
          rw [c_sR_set]
          have hL := hL0.sR (fun i => if i = x_wtN X 0 k then ca G 17 k else g i)
          refine am_iinc_1 1 iX6_forgetEnded_36 rfl rfl rfl ?_
          refine am_iinc_2 1 iX6_forgetEnded_39 rfl rfl rfl ?_
          refine am_goto iX6_forgetEnded_42 ?_
          rw [nI_1, nI_1, ← wt_s c0, ← wt_s h2]
          refine ih (k + 1) (by omega) _ (fun j hj hs => ?_) (fun j h3 h4 h5 => ?_)
          · show (if x_wtN X 0 j = x_wtN X 0 k then ca G 17 k else g (x_wtN X 0 j)) = _
            by_cases e : j = k
            · subst e
              rw [if_pos rfl]
            · have := wt_lt hs (show j < k by omega)
              rw [if_neg (by omega)]
              exact hA j (by omega) hs
          · show (if x_wtN X0 0 j = x_wtN X 0 k then ca G 17 k else g (x_wtN X0 0 j)) = _
            have := wt_mono X0 0 h3
            rw [wt_s c0] at this
            rw [if_neg (by omega)]
            exact hB j (by omega) h4 h5
      · have c1 : ¬ X.1 23 k = 0 := fun q => c0 (hsub k (by omega) q)
        rw [← wt_n c0, ← wt_n c1]
        exact ih (k + 1) (by omega) g (fun j hj hs => hA j (by
          rcases Nat.lt_or_ge j k with q | q
          · exact q
          · exact absurd (show X.1 23 k = 0 by rw [show k = j by omega]; exact hs) c1) hs) (fun j h1 h2 h3 => hB j (by omega) h2 h3)
  have hL := hL0.sR g
  refine am_iconst (i := 0) (v := 0) rfl iX6_forgetEnded_0 ?_
  refine am_istore_n_1 iX6_forgetEnded_1 rfl rfl ?_
  refine am_iconst (i := 0) (v := 0) rfl iX6_forgetEnded_2 ?_
  refine am_istore_n_2 iX6_forgetEnded_3 rfl rfl ?_
  exact key N 0 (by omega) g (fun j hj _ => by omega) (fun j _ hj hs => hw j hj hs)
set_option maxHeartbeats 1000000 in
theorem y_lookAtWaiting (hL0 : LC m G P R) (hk : ∀ k, k < N → cx G 17 k) (g : Nat → Nat) (hA : IA X E P R N T) (hB : IB X E P N) (hw : y_WT G X N g) {r : Nat} (hr : r < R) :
    am_W sc 60 0 [.ref (ca G 1 0), .int (nI r), .retAddr 1] [] (cm (c_sR m (ca G 24 0) g) G X E) (am_RE none (fun m' => ∃ g', y_WT G (x_lookN X P r N) N g' ∧ m' = cm (c_sR m (ca G 24 0) g') G (x_lookN X P r N) (y_lE X E P r N))) := by
  have h1 := hL0.2.1
  have hP := hL0.2.2.2
  have hL := hL0.sR g
  have h40 := hB.2.2.2.2.2
  have hE0 := hB.2.2.1
  have key : ∀ d k : Nat, k + d = N → am_W sc 60 2 [.ref (ca G 1 0), .int (nI r), .int (nI (x_wtN X 0 k))] [] (cm (c_sR m (ca G 24 0) g) G (x_lookN X P r k) (xU E 0 1 (nI (x_wtN (x_lookN X P r k) 1 N)))) (am_RE none (fun m' => ∃ g', y_WT G (x_lookN X P r N) N g' ∧ m' = cm (c_sR m (ca G 24 0) g') G (x_lookN X P r N) (y_lE X E P r N))) := by
    intro d
    induction d with
    | zero =>
      intro k hkN
      have e : N = k := by omega
      subst e
      refine am_iload_n iX6_lookAtWaiting_2 rfl rfl ?_
      refine am_aload_n iX6_lookAtWaiting_3 rfl rfl ?_
      refine y_getE (o := 0) hL (by assumption) iX6_lookAtWaiting_4 fX6_lookAtWaiting_158 rfl rfl rfl ?_
      rw [xU_j _ _ (by decide), hE0]
      refine am_icmp_ge iX6_lookAtWaiting_7 (fun _ => ?_) (fun hc => absurd (nI_le (Nat.le_refl _) (by omega)) hc)
      refine am_aload_n iX6_lookAtWaiting_46 rfl rfl ?_
      have hsub : ∀ k, k < N → (x_lookN X P r N).1 23 k = 0 → X.1 23 k = 0 := by
        intro k _ hq
        rcases x_look_st (P := P) X r k N with q | q
        · exact q.symm.trans hq
        · exact q.1
      refine am_eV0v iX6_lookAtWaiting_47 cX6_lookAtWaiting_301 mX6_forgetEnded (y_K hL (by assumption) rfl rfl) rfl rfl rfl (y_forgetEnded (X0 := X) (N := N) hL0 hk g ((xU_j _ _ (by decide)).trans hE0) h40.1 hw hsub) ?_
      rintro m2 ⟨g', w1, rfl⟩
      exact am_vret iX6_lookAtWaiting_50 rfl ⟨rfl, g', w1, rfl⟩
    | succ d ih =>
      intro k hkN
      have hst := x_look_up (P := P) X r (j := k) k (Nat.le_refl _)
      have e1 : x_lookN X P r (k + 1) = if (x_lookN X P r k).1 23 k = 0 ∧ x_may (x_lookN X P r k) P r k = true then x_ans (x_lookN X P r k) P r k else x_lookN X P r k := rfl
      rw [hst] at e1
      by_cases c0 : X.1 23 k = 0
      · have b1 := wt_lt c0 (show k < N by omega)
        have hrd := hk k (by omega)
        have hg : am_R (c_sR m (ca G 24 0) g) (ca G 24 0) (x_wtN X 0 k) = ca G 17 k := c_sR_R.trans (hw k (by omega) c0)
        have o1 : ∀ o j, o ≠ 22 → o ≠ 23 → o ≠ 31 → o ≠ 34 → (x_lookN X P r k).1 o j = X.1 o j := fun o j q1 q2 q3 q4 => x_look_o X P r q1 q2 q3 q4 k
        have hd : y_rd (x_lookN X P r k) (xU E 0 1 (nI (x_wtN (x_lookN X P r k) 1 N))) k (nt (X.1 24 k)) P := (hA.2.2.2.2.2.2.1 k (by omega)).1.cg (fun o j ho => o1 o j (by omega) (by omega) (by omega) (by omega)) rfl
        have hEx : ∀ p, p < P → x_ix ((x_lookN X P r k).1 1 p) 401 ∧ x_ix ((x_lookN X P r k).1 15 (3 * r + p)) 401 := fun p hp => by
          rw [o1 1 _ (by decide) (by decide) (by decide) (by decide), o1 15 _ (by decide) (by decide) (by decide) (by decide)]
          exact ⟨hA.1.2.2.1 p (by omega), (hA.1.2.2.2.1 r p (by omega) (by omega)).1⟩
        refine am_iload_n iX6_lookAtWaiting_2 rfl rfl ?_
        refine am_aload_n iX6_lookAtWaiting_3 rfl rfl ?_
        refine y_getE (o := 0) hL (by assumption) iX6_lookAtWaiting_4 fX6_lookAtWaiting_158 rfl rfl rfl ?_
        rw [xU_j _ _ (by decide), hE0]
        refine am_icmp_ge iX6_lookAtWaiting_7 (fun hc => absurd hc (fun q => absurd ((nI_leI (by omega) (by omega)).mp q) (by omega))) (fun _ => ?_)
        refine am_aload_n iX6_lookAtWaiting_10 rfl rfl ?_
        refine am_aload_n iX6_lookAtWaiting_11 rfl rfl ?_
        refine y_getR hL (by assumption) iX6_lookAtWaiting_12 fX6_lookAtWaiting_18 rfl rfl rfl (fun _ => ?_)
        refine am_iload_n iX6_lookAtWaiting_15 rfl rfl ?_
        refine y_reps (r) hL (by assumption) iX6_lookAtWaiting_16 (by first | rfl | simp only [nI_add, pk_mul, nI_1, nL0, nL1, nL2, nL3, nL4, nL10, nL30, nL300, nL401]) (hr) (fun _ => ?_)
        refine am_aload_n iX6_lookAtWaiting_17 rfl rfl ?_
        refine y_getR hL (by assumption) iX6_lookAtWaiting_18 fX6_lookAtWaiting_36 rfl rfl rfl (fun _ => ?_)
        refine am_iload_n iX6_lookAtWaiting_21 rfl rfl ?_
        refine y_wald (x_wtN X 0 k) hL iX6_lookAtWaiting_22 rfl (by omega) hg ?_
        refine am_cV2r iX6_lookAtWaiting_23 cX6_lookAtWaiting_287 mX6_mayAnswer (y_K hL (by assumption) rfl rfl) rfl rfl rfl (y_mayAnswer hL (by assumption) hrd hd hEx) ?_
        cases c1 : x_may (x_lookN X P r k) P r k
        · rw [if_neg (fun q => by rw [c1] at q; cases q.2)] at e1
          refine am_if_eq iX6_lookAtWaiting_26 (fun _ => ?_) (fun hc => absurd (by decide) hc)
          refine am_iinc_2 1 iX6_lookAtWaiting_40 rfl rfl rfl ?_
          refine am_goto iX6_lookAtWaiting_43 ?_
          rw [nI_1, ← wt_s c0]
          have := ih (k + 1) (by omega)
          rw [e1] at this
          exact this
        · rw [if_pos ⟨c0, c1⟩] at e1
          refine am_if_eq iX6_lookAtWaiting_26 (fun hc => absurd hc (by decide)) (fun _ => ?_)
          refine am_aload_n iX6_lookAtWaiting_29 rfl rfl ?_
          refine am_aload_n iX6_lookAtWaiting_30 rfl rfl ?_
          refine y_getR hL (by assumption) iX6_lookAtWaiting_31 fX6_lookAtWaiting_36 rfl rfl rfl (fun _ => ?_)
          refine am_iload_n iX6_lookAtWaiting_34 rfl rfl ?_
          refine y_wald (x_wtN X 0 k) hL iX6_lookAtWaiting_35 rfl (by omega) hg ?_
          refine am_iload_n iX6_lookAtWaiting_36 rfl rfl ?_
          refine am_cV2v iX6_lookAtWaiting_37 cX6_lookAtWaiting_167 mX6_answer (y_K hL (by assumption) rfl rfl) rfl rfl rfl (y_answer hL hr hrd hd (fun i hi => by rw [o1 10 _ (by decide) (by decide) (by decide) (by decide)]; exact hA.S (show r < 8 by omega) i hi) (fun q q1 q2 => ⟨(x_look_hi X r q1 q2 k).trans (hB.1 _ q (hA.2.2.2.2.2.2.1 k (by omega)).1.1 q1 q2), by rw [o1 15 _ (by decide) (by decide) (by decide) (by decide)]; exact (hA.2.2.2.1 q q1 q2).2.1 r (by omega)⟩)) ?_
          refine am_iinc_2 1 iX6_lookAtWaiting_40 rfl rfl rfl ?_
          refine am_goto iX6_lookAtWaiting_43 ?_
          rw [nI_1, ← wt_s c0]
          have := ih (k + 1) (by omega)
          rw [e1, wt_more (X := x_lookN X P r k) (Y := x_ans (x_lookN X P r k) P r k) (k := k) (v := 1) (by rw [x_ans_st, if_pos rfl]) (by rw [hst, c0]; decide) (fun j hj => by rw [x_ans_st, if_neg hj]) N (by omega)] at this
          rw [xU_s, nI_1]
          have e2 : ∀ (F : ms_X) (a b : Int32), xU (xU F 0 1 a) 0 1 b = xU F 0 1 b := by
            intro F a b
            refine Prod.ext ?_ rfl
            funext o j
            show (if o = 0 ∧ j = 1 then b else if o = 0 ∧ j = 1 then a else F.1 o j) = if o = 0 ∧ j = 1 then b else F.1 o j
            split <;> rfl
          rw [e2]
          exact this
      · rw [if_neg (fun q => c0 q.1)] at e1
        have := ih (k + 1) (by omega)
        rw [e1, wt_n c0] at this
        exact this
  refine am_iconst (i := 0) (v := 0) rfl iX6_lookAtWaiting_0 ?_
  refine am_istore_n_2 iX6_lookAtWaiting_1 rfl rfl ?_
  have := key N 0 (by omega)
  rw [show x_lookN X P r 0 = X from rfl, xU_id E (hB.2.2.2.1).symm] at this
  exact this
def y_fE (X E : ms_X) (N : Nat) : ms_X := xU (xU E 0 2 (nI (x_wtN (x_flN X N) 2 N))) 0 0 (nI (x_wtN (x_flN X N) 0 N))
theorem x_fl_st0 (X : ms_X) (k j : Nat) : (x_fail X k).1 23 j = if j = k then 2 else X.1 23 j := by
  unfold x_fail
  rw [xU_o _ _ (by decide)]
  split
  · rename_i e; subst e; exact xU_s _ _ _ _
  · rename_i e; exact xU_j _ _ e
theorem x_fl_up (X : ms_X) {j : Nat} : ∀ n, n ≤ j → (x_flN X n).1 23 j = X.1 23 j
  | 0, _ => rfl
  | n + 1, h => by
    unfold x_flN
    split
    · rw [x_fl_st0, if_neg (by omega)]; exact x_fl_up X n (by omega)
    · exact x_fl_up X n (by omega)
theorem x_fl_st (X : ms_X) (j : Nat) : ∀ n, (x_flN X n).1 23 j = X.1 23 j ∨ (X.1 23 j = 0 ∧ (x_flN X n).1 23 j = 2)
  | 0 => Or.inl rfl
  | n + 1 => by
    have ih := x_fl_st X j n
    unfold x_flN
    split
    · rename_i h
      rw [x_fl_st0]
      split
      · rename_i e
        subst e
        rw [x_fl_up X j (Nat.le_refl _)] at h
        exact Or.inr ⟨h.1, rfl⟩
      · exact ih
    · exact ih
theorem IB.fl (h : IB X E P N) : IB (x_flN X N) (y_fE X E N) P N := by
  obtain ⟨a1, a2, a3, a4, a5, a6, a7⟩ := h
  have hs : x_wtN (x_flN X N) 0 N ≤ x_wtN X 0 N := wt_sub N (fun k _ hq => by
    rcases x_fl_st X k N with q | q
    · exact q.symm.trans hq
    · exact q.1)
  refine ⟨fun s q hs hq hq3 => by rw [x_flN_o _ (by decide) (by decide)]; exact a1 s q hs hq hq3, fun k hk => ?_, xU_s _ _ _ _, ?_, ?_, by omega, a7.cg (fun _ => x_flN_o _ (by decide) (by decide) N) (fun _ => x_flN_o _ (by decide) (by decide) N) (fun _ => x_flN_o _ (by decide) (by decide) N)⟩
  · rcases x_fl_st X k N with q | q
    · rw [q]; exact a2 k hk
    · exact Or.inr (Or.inr q.2)
  · refine ((xU_j _ _ (by decide)).trans (xU_j _ _ (by decide))).trans (a4.trans (congrArg nI (wt_cg N (fun k _ => ?_)).symm))
    rcases x_fl_st X k N with q | q
    · rw [q]
    · rw [q.1, q.2]; decide
  · exact (xU_j _ _ (by decide)).trans (xU_s _ _ _ _)
theorem IA.fl (h : IA X E P R N T) : IA (x_flN X N) (y_fE X E N) P R N T :=
  h.cg (fun j _ => x_flN_o X (by decide) (by decide) N) (fun o j _ _ h2 _ h4 => x_flN_o X h2 h4 N) (fun _ _ => rfl) (fun k _ => by
    unfold y_fE
    rw [xU_o _ _ (by decide), xU_o _ _ (by decide)])
set_option maxHeartbeats 1000000 in
theorem y_failOverdue (hL0 : LC m G P R) (hk : ∀ k, k < N → cx G 17 k) (g : Nat → Nat) (hA : IA X E P R N T) (hB : IB X E P N) (hw : y_WT G X N g) :
    am_W sc 61 0 [.ref (ca G 1 0), .retAddr 1] [] (cm (c_sR m (ca G 24 0) g) G X E) (am_RE none (fun m' => ∃ g', y_WT G (x_flN X N) N g' ∧ m' = cm (c_sR m (ca G 24 0) g') G (x_flN X N) (y_fE X E N))) := by
  have h1 := hL0.2.1
  have hL := hL0.sR g
  have h40 := hB.2.2.2.2.2
  have hE0 := hB.2.2.1
  have hT := hA.2.2.2.2.2.2.2.2
  obtain ⟨tm, htm, htt, ht2⟩ := x_ix_ex hA.2.2.2.2.2.2.2.1
  have key : ∀ d k : Nat, k + d = N → am_W sc 61 2 [.ref (ca G 1 0), .int (nI (x_wtN X 0 k))] [] (cm (c_sR m (ca G 24 0) g) G (x_flN X k) (xU E 0 2 (nI (x_wtN (x_flN X k) 2 N)))) (am_RE none (fun m' => ∃ g', y_WT G (x_flN X N) N g' ∧ m' = cm (c_sR m (ca G 24 0) g') G (x_flN X N) (y_fE X E N))) := by
    intro d
    induction d with
    | zero =>
      intro k hkN
      have e : N = k := by omega
      subst e
      refine am_iload_n iX6_failOverdue_2 rfl rfl ?_
      refine am_aload_n iX6_failOverdue_3 rfl rfl ?_
      refine y_getE (o := 0) hL (by assumption) iX6_failOverdue_4 fX6_failOverdue_158 rfl rfl rfl ?_
      rw [xU_j _ _ (by decide), hE0]
      refine am_icmp_ge iX6_failOverdue_7 (fun _ => ?_) (fun hc => absurd (nI_le (Nat.le_refl _) (by omega)) hc)
      refine am_aload_n iX6_failOverdue_42 rfl rfl ?_
      have hsub : ∀ k, k < N → (x_flN X N).1 23 k = 0 → X.1 23 k = 0 := by
        intro k _ hq
        rcases x_fl_st X k N with q | q
        · exact q.symm.trans hq
        · exact q.1
      refine am_eV0v iX6_failOverdue_43 cX6_failOverdue_301 mX6_forgetEnded (y_K hL (by assumption) rfl rfl) rfl rfl rfl (y_forgetEnded (X0 := X) (N := N) hL0 hk g ((xU_j _ _ (by decide)).trans hE0) h40.1 hw hsub) ?_
      rintro m2 ⟨g', w1, rfl⟩
      exact am_vret iX6_failOverdue_46 rfl ⟨rfl, g', w1, rfl⟩
    | succ d ih =>
      intro k hkN
      have hst := x_fl_up X (j := k) k (Nat.le_refl _)
      have e1 : x_flN X (k + 1) = if (x_flN X k).1 23 k = 0 ∧ (x_flN X k).1 27 k ≤ (x_flN X k).1 0 3 - (x_flN X k).1 28 k then x_fail (x_flN X k) k else x_flN X k := rfl
      rw [hst, x_flN_o X (by decide) (by decide), x_flN_o X (by decide) (by decide), x_flN_o X (by decide) (by decide)] at e1
      by_cases c0 : X.1 23 k = 0
      · have b1 := wt_lt c0 (show k < N by omega)
        have hrd := hk k (by omega)
        have hg : am_R (c_sR m (ca G 24 0) g) (ca G 24 0) (x_wtN X 0 k) = ca G 17 k := c_sR_R.trans (hw k (by omega) c0)
        obtain ⟨-, a, b, q1, q2, q3, q4, q5⟩ := hA.2.2.2.2.2.2.1 k (by omega)
        rw [htt] at q4
        have cc : (X.1 27 k ≤ X.1 0 3 - X.1 28 k) ↔ a + b ≤ tm := by
          rw [q2, q1, ht2, pk_sub q4, nI_leI (by omega) (by omega)]
          omega
        refine am_iload_n iX6_failOverdue_2 rfl rfl ?_
        refine am_aload_n iX6_failOverdue_3 rfl rfl ?_
        refine y_getE (o := 0) hL (by assumption) iX6_failOverdue_4 fX6_failOverdue_158 rfl rfl rfl ?_
        rw [xU_j _ _ (by decide), hE0]
        refine am_icmp_ge iX6_failOverdue_7 (fun hc => absurd hc (fun q => absurd ((nI_leI (by omega) (by omega)).mp q) (by omega))) (fun _ => ?_)
        refine am_aload_n iX6_failOverdue_10 rfl rfl ?_
        refine y_getR hL (by assumption) iX6_failOverdue_11 fX6_failOverdue_36 rfl rfl rfl (fun _ => ?_)
        refine am_iload_n iX6_failOverdue_14 rfl rfl ?_
        refine y_wald (x_wtN X 0 k) hL iX6_failOverdue_15 rfl (by omega) hg ?_
        refine y_getE (o := 1) hL (by assumption) iX6_failOverdue_16 fX6_failOverdue_304 rfl rfl rfl ?_
        refine am_aload_n iX6_failOverdue_19 rfl rfl ?_
        refine y_getI (o := 0) hL (by assumption) iX6_failOverdue_20 fX6_failOverdue_107 rfl rfl rfl rfl ?_
        rw [xU_o _ _ (by decide), q5, x_flN_o X (by decide) (by decide), ht2]
        refine am_icmp_gt iX6_failOverdue_23 (fun h2 => ?_) (fun h2 => ?_)
        · have h3 := (nI_ltI (by omega) (by omega)).mp h2
          rw [if_neg (fun q => absurd (cc.mp q.2) (by omega))] at e1
          refine am_iinc_1 1 iX6_failOverdue_36 rfl rfl rfl ?_
          refine am_goto iX6_failOverdue_39 ?_
          rw [nI_1, ← wt_s c0]
          have := ih (k + 1) (by omega)
          rw [e1] at this
          exact this
        · have h3 : a + b ≤ tm := Nat.le_of_not_lt (fun q => h2 ((nI_ltI (by omega) (by omega)).mpr q))
          rw [if_pos ⟨c0, cc.mpr h3⟩] at e1
          refine am_aload_n iX6_failOverdue_26 rfl rfl ?_
          refine am_aload_n iX6_failOverdue_27 rfl rfl ?_
          refine y_getR hL (by assumption) iX6_failOverdue_28 fX6_failOverdue_36 rfl rfl rfl (fun _ => ?_)
          refine am_iload_n iX6_failOverdue_31 rfl rfl ?_
          refine y_wald (x_wtN X 0 k) hL iX6_failOverdue_32 rfl (by omega) hg ?_
          refine am_cV1v iX6_failOverdue_33 cX6_failOverdue_163 mX6_fail (y_K hL (by assumption) rfl rfl) rfl rfl rfl (y_fail hL hrd) ?_
          refine am_iinc_1 1 iX6_failOverdue_36 rfl rfl rfl ?_
          refine am_goto iX6_failOverdue_39 ?_
          rw [nI_1, ← wt_s c0]
          have := ih (k + 1) (by omega)
          rw [e1, wt_more (X := x_flN X k) (Y := x_fail (x_flN X k) k) (k := k) (v := 2) (by rw [x_fl_st0, if_pos rfl]) (by rw [hst, c0]; decide) (fun j hj => by rw [x_fl_st0, if_neg hj]) N (by omega)] at this
          rw [xU_s, nI_1]
          have e2 : ∀ (F : ms_X) (a b : Int32), xU (xU F 0 2 a) 0 2 b = xU F 0 2 b := by
            intro F a b
            refine Prod.ext ?_ rfl
            funext o j
            show (if o = 0 ∧ j = 2 then b else if o = 0 ∧ j = 2 then a else F.1 o j) = if o = 0 ∧ j = 2 then b else F.1 o j
            split <;> rfl
          rw [e2]
          exact this
      · rw [if_neg (fun q => c0 q.1)] at e1
        have := ih (k + 1) (by omega)
        rw [e1, wt_n c0] at this
        exact this
  refine am_iconst (i := 0) (v := 0) rfl iX6_failOverdue_0 ?_
  refine am_istore_n_1 iX6_failOverdue_1 rfl rfl ?_
  have := key N 0 (by omega)
  rw [show x_flN X 0 = X from rfl, xU_id E (hB.2.2.2.2.1).symm] at this
  exact this
end
