/-! the class: steps and ticks -/
section
variable {sc : Nat × (Nat → Int32)} {m : am_Mem} {G : cg_G} {X E : ms_X} {P R N T : Nat}
theorem x_rg_j {p : Int32} {b n : Int} (h : x_rg p n b = true) (hn : 0 ≤ n) : p = nI (nt p) ∧ n ≤ nt p ∧ (nt p : Int) ≤ b := by
  have h1 := of_decide_eq_true h
  have h2 : ¬ p < 0 := by
    rw [Int32.lt_iff_toInt_lt, Int32.toInt_zero]; omega
  obtain ⟨j, hj, rfl⟩ := nI_of h2
  rw [nI_toInt hj] at h1
  rw [nt_nI hj]
  exact ⟨rfl, h1.1, h1.2⟩
/-- the rows of reads and commands -/
def IM (m : am_Mem) (G : cg_G) (X : ms_X) (P N : Nat) : Prop :=
  (∀ k, k < N → am_R m (ca G 23 0) k = ca G 17 k ∧ cx G 17 k) ∧ (∀ p q, p < P → nt (X.1 2 p) < q → q ≤ nt (X.1 1 p) → am_R m (ca G 3 p) (q - 1) = ca G 18 (401 * p + q) ∧ cx G 18 (401 * p + q)) ∧
  ∀ a, ((co G a).1 = 17 → (co G a).2 < N) ∧ ((co G a).1 = 18 ∨ (co G a).1 = 19 → ∃ p q, p < P ∧ (co G a).2 = 401 * p + q ∧ 1 ≤ q ∧ q ≤ nt (X.1 1 p))
theorem y_commandAt (hL : LC m G P R) {p : Nat} (hp : cx G 2 p) (h1 : x_ix (X.1 1 p) 401) (h2 : x_ix (X.1 2 p) 401) (hD : ∀ q, nt (X.1 2 p) < q → q ≤ nt (X.1 1 p) → am_R m (ca G 3 p) (q - 1) = ca G 18 (401 * p + q) ∧ cx G 18 (401 * p + q)) (i : Int32) :
    am_W sc 2 0 [.ref (ca G 2 p), .int i] [] (cm m G X E) (am_R1 (some (.ref (if X.1 2 p < i ∧ i ≤ X.1 1 p then ca G 18 (401 * p + nt i) else 0))) (cm m G X E)) := by
  refine am_iload_n iX1_commandAt_0 rfl rfl ?_
  refine am_aload_n iX1_commandAt_1 rfl rfl ?_
  refine y_getI (o := 2) hL (by assumption) iX1_commandAt_2 fX1_commandAt_17 rfl rfl rfl rfl ?_
  refine am_icmp_le iX1_commandAt_5 (fun c1 => ?_) (fun c1 => ?_)
  · rw [if_neg (fun q => absurd q.1 (Int32.not_lt.mpr c1))]
    refine am_null iX1_commandAt_27 ?_
    exact am_aret iX1_commandAt_28 rfl (by first | exact Or.inl ⟨_, rfl⟩ | exact Or.inr ⟨_, rfl⟩) (⟨rfl, rfl⟩)
  · refine am_iload_n iX1_commandAt_8 rfl rfl ?_
    refine am_aload_n iX1_commandAt_9 rfl rfl ?_
    refine y_getI (o := 1) hL (by assumption) iX1_commandAt_10 fX1_commandAt_21 rfl rfl rfl rfl ?_
    refine am_icmp_gt iX1_commandAt_13 (fun c2 => ?_) (fun c2 => ?_)
    · rw [if_neg (fun q => absurd q.2 (Int32.not_le.mpr c2))]
      refine am_null iX1_commandAt_27 ?_
      exact am_aret iX1_commandAt_28 rfl (by first | exact Or.inl ⟨_, rfl⟩ | exact Or.inr ⟨_, rfl⟩) (⟨rfl, rfl⟩)
    · have c1' := Int32.not_le.mp c1
      have c2' := Int32.not_lt.mp c2
      rw [if_pos ⟨c1', c2'⟩]
      obtain ⟨t, ht, htt, ht2⟩ := x_ix_ex h2
      obtain ⟨e, he, het, he2⟩ := x_ix_ex h1
      rw [ht2] at c1'
      rw [he2] at c2'
      have c3 : ¬ i < 0 := by
        rw [Int32.lt_iff_toInt_lt, nI_toInt (by omega)] at c1'
        rw [Int32.lt_iff_toInt_lt, Int32.toInt_zero]
        omega
      obtain ⟨q, hq, rfl⟩ := nI_of c3
      have c4 := (nI_leI (by omega) (by omega)).mp c2'
      have c5 := (nI_ltI (by omega) (by omega)).mp c1'
      rw [nt_nI hq]
      obtain ⟨d1, d2⟩ := hD q (by omega) (by omega)
      refine am_aload_n iX1_commandAt_16 rfl rfl ?_
      refine y_getR hL (by assumption) iX1_commandAt_17 fX1_commandAt_11 rfl rfl rfl (fun _ => ?_)
      refine am_iload_n iX1_commandAt_20 rfl rfl ?_
      refine am_iconst (i := 1) (v := 1) rfl iX1_commandAt_21 ?_
      refine am_isub iX1_commandAt_22 ?_
      rw [nL1, pk_sub (by omega)]
      have hc : cx G 3 p := by assumption
      refine am_aald (ci := 0) iX1_commandAt_23 (y_K hL hc rfl rfl) (by decide) (by rw [y_L hL hc rfl]; exact vp_in_nI (N := 400) (by omega) (by decide)) ?_
      rw [nI_clamp (by omega)]
      show am_W _ _ _ _ (.ref (am_R m (ca G 3 p) (q - 1)) :: _) _ _
      rw [d1]
      refine am_goto iX1_commandAt_24 ?_
      exact am_aret iX1_commandAt_28 rfl (by first | exact Or.inl ⟨_, rfl⟩ | exact Or.inr ⟨_, rfl⟩) (⟨rfl, rfl⟩)
theorem y_cov_x {c r : Nat} (hP : P ≤ 3) (hz : ∀ q, P ≤ q → q < 3 → X.1 7 (3 * c + q) = 0 ∧ X.1 15 (3 * r + q) = 0) : y_cov (fun j => X.1 15 (3 * r + j)) (fun j => X.1 7 (3 * c + j)) 3 = x_cov X 7 (3 * c) r P := by
  have k1 : ∀ n, y_cov (fun j => X.1 15 (3 * r + j)) (fun j => X.1 7 (3 * c + j)) n = x_cov X 7 (3 * c) r n := by
    intro n
    induction n with
    | zero => rfl
    | succ n ih =>
      show (y_cov _ _ n && _) = (x_cov X 7 (3 * c) r n && _)
      rw [ih]
  have k2 : ∀ d p, p + d = 3 → P ≤ p → x_cov X 7 (3 * c) r 3 = x_cov X 7 (3 * c) r p := by
    intro d
    induction d with
    | zero => intro p hp _; rw [show p = 3 by omega]
    | succ d ih =>
      intro p hp hq
      rw [ih (p + 1) (by omega) (by omega)]
      show (x_cov X 7 (3 * c) r p && decide (X.1 7 (3 * c + p) ≤ X.1 15 (3 * r + p))) = _
      rw [(hz p hq (by omega)).1, (hz p hq (by omega)).2, decide_eq_true (by decide), Bool.and_true]
  rw [k1, k2 (3 - P) P (by omega) (Nat.le_refl _)]
theorem y_cov_cg {f g f' g' : Nat → Int32} (h : ∀ j, j < 3 → f j = f' j ∧ g j = g' j) : y_cov f g 3 = y_cov f' g' 3 := by
  show (((true && _) && _) && _) = (((true && _) && _) && _)
  rw [(h 0 (by omega)).1, (h 0 (by omega)).2, (h 1 (by omega)).1, (h 1 (by omega)).2, (h 2 (by omega)).1, (h 2 (by omega)).2]
theorem x_take_sold (X : ms_X) {r k it : Nat} (hit : nt (X.1 4 k) = it) (hi : it < 30) {r' i : Nat} (hi' : i < 30) : (x_take X r k).1 10 (30 * r' + i) = X.1 10 (30 * r' + i) ∨ (r' = r ∧ (x_take X r k).1 10 (30 * r' + i) = X.1 10 (30 * r' + i) + X.1 6 k) := by
  unfold x_take x_takeI
  rw [hit]
  split
  · left; split
    · exact xU_o _ _ (by decide)
    · rfl
  · split
    · left; split
      · exact (xU_o _ _ (by decide)).trans (xU_o _ _ (by decide))
      · exact xU_o _ _ (by decide)
    · split
      · split
        · exact Or.inl rfl
        · by_cases e : 30 * r' + i = 30 * r + it
          · right
            refine ⟨by omega, ?_⟩
            rw [e]
            show (xU _ 10 (30 * r + it) _).1 10 (30 * r + it) = _
            rw [xU_s, xU_o _ _ (by decide), xU_o _ _ (by decide), xU_o _ _ (by decide)]
          · left
            show (xU _ 10 (30 * r + it) _).1 10 (30 * r' + i) = _
            rw [xU_j _ _ e, xU_o _ _ (by decide), xU_o _ _ (by decide), xU_o _ _ (by decide)]
      · left
        split
        · exact (xU_o _ _ (by decide)).trans (xU_o _ _ (by decide))
        · exact xU_o _ _ (by decide)
theorem x_adv1_o (X : ms_X) (P r p : Nat) {a j : Nat} (h8 : a ≠ 8) (h9 : a ≠ 9) (h10 : a ≠ 10) (h11 : a ≠ 11) (h12 : a ≠ 12) (h14 : a ≠ 14) (h15 : a ≠ 15) (h17 : a ≠ 17) : (x_adv1 X P r p).1 a j = X.1 a j := by
  unfold x_adv1
  rw [xU_o _ _ h17, xU_o _ _ h15, x_take_o _ _ _ h8 h9 h10 h11 h12 h14]
theorem x_adv1_at (h : x_Wf X P R N) {r p : Nat} (hr : r < 8) (hp : p < 3) (j : Nat) : (x_adv1 X P r p).1 15 j = if j = 3 * r + p then nI (nt (X.1 15 (3 * r + p)) + 1) else X.1 15 j := by
  unfold x_adv1
  rw [xU_o _ _ (by decide)]
  split
  · rename_i e
    subst e
    rw [xU_s, x_take_o _ _ _ (by decide) (by decide) (by decide) (by decide) (by decide) (by decide), ← nI_1, ← (h.2.2.2.1 r p hr hp).1.2]
  · rename_i e
    rw [xU_j _ _ e, x_take_o _ _ _ (by decide) (by decide) (by decide) (by decide) (by decide) (by decide)]
theorem IA.adv1 (h : IA X E P R N T) {r p : Nat} (hr : r < R) (hp : p < P) (hne : ¬ X.1 15 (3 * r + p) = X.1 1 p) : IA (x_adv1 X P r p) E P R N T := by
  have hW := h.1
  have hR4 := hW.1.2.2.2.2.2
  have hP4 := hW.1.2.2.2.1
  have hW1 := hW.adv1 (show r < 4 by omega) hp hne
  obtain ⟨l1, l2⟩ := x_adv_lt hW (show r < 8 by omega) (show p < 3 by omega) hne
  have hat := fun j => x_adv1_at hW (r := r) (p := p) (by omega) (by omega) j
  have o : ∀ a j, a ≠ 8 → a ≠ 9 → a ≠ 10 → a ≠ 11 → a ≠ 12 → a ≠ 14 → a ≠ 15 → a ≠ 17 → (x_adv1 X P r p).1 a j = X.1 a j := fun a j b1 b2 b3 b4 b5 b6 b7 b8 => x_adv1_o X P r p b1 b2 b3 b4 b5 b6 b7 b8
  obtain ⟨a1, a2, a3, a4, a5, a6, a7, a8, a9⟩ := h
  have hcm := a5 p (nt (X.1 15 (3 * r + p)) + 1) hp (by omega) (by omega)
  have hit := (hW.2.2.2.2.1 p (nt (X.1 15 (3 * r + p)) + 1) (by omega) (by omega) (by omega)).1
  refine ⟨hW1, fun q hq => ?_, fun r' q hr' hq => ?_, fun q hq hq3 => ?_, fun q i hq hi1 hi2 => ?_, fun r' i hr' hi => ?_, fun k hk => ?_, ?_, a9⟩
  · rw [o 2 _ (by decide) (by decide) (by decide) (by decide) (by decide) (by decide) (by decide) (by decide)]; exact a2 q hq
  · rw [o 2 _ (by decide) (by decide) (by decide) (by decide) (by decide) (by decide) (by decide) (by decide), hat, hat, if_neg (by omega)]
    obtain ⟨b1, b2⟩ := a3 r' q hr' hq
    refine ⟨b1, ?_⟩
    split
    · rename_i e
      have e1 : r' = r := by omega
      have e2 : q = p := by omega
      subst e1
      subst e2
      rw [nt_nI (by omega)]
      omega
    · exact b2
  · obtain ⟨b1, b2, b3⟩ := a4 q hq hq3
    refine ⟨?_, fun r' hr' => ?_, fun s hs => ?_⟩
    · rw [o 1 _ (by decide) (by decide) (by decide) (by decide) (by decide) (by decide) (by decide) (by decide)]; exact b1
    · rw [hat, if_neg (by omega)]; exact b2 r' hr'
    · rw [o 21 _ (by decide) (by decide) (by decide) (by decide) (by decide) (by decide) (by decide) (by decide)]; exact b3 s hs
  · rw [o 1 _ (by decide) (by decide) (by decide) (by decide) (by decide) (by decide) (by decide) (by decide)] at hi2
    rw [o 3 _ (by decide) (by decide) (by decide) (by decide) (by decide) (by decide) (by decide) (by decide), o 6 _ (by decide) (by decide) (by decide) (by decide) (by decide) (by decide) (by decide) (by decide)]
    obtain ⟨b1, b2, b3⟩ := a5 q i hq hi1 hi2
    refine ⟨b1, b2, fun q' h1 h2 => ?_⟩
    rw [o 7 _ (by decide) (by decide) (by decide) (by decide) (by decide) (by decide) (by decide) (by decide)]
    exact b3 q' h1 h2
  · obtain ⟨v, v1, v2⟩ := a6 r' i hr' hi
    have es : (x_adv1 X P r p).1 10 (30 * r' + i) = (x_take X r (401 * p + nt (X.1 15 (3 * r + p)) + 1)).1 10 (30 * r' + i) := by
      unfold x_adv1
      rw [xU_o _ _ (by decide), xU_o _ _ (by decide)]
    have hsum : nt ((x_adv1 X P r p).1 15 (3 * r')) + nt ((x_adv1 X P r p).1 15 (3 * r' + 1)) + nt ((x_adv1 X P r p).1 15 (3 * r' + 2)) = nt (X.1 15 (3 * r')) + nt (X.1 15 (3 * r' + 1)) + nt (X.1 15 (3 * r' + 2)) + (if r' = r then 1 else 0) := by
      rw [hat, hat, hat]
      by_cases e : r' = r
      · subst e
        rw [if_pos rfl]
        rcases (show p = 0 ∨ p = 1 ∨ p = 2 by omega) with rfl | rfl | rfl
        · rw [if_pos (by omega), if_neg (by omega), if_neg (by omega), nt_nI (by omega)]
          show nt (X.1 15 (3 * r')) + 1 + _ + _ = _
          omega
        · rw [if_neg (by omega), if_pos (by omega), if_neg (by omega), nt_nI (by omega)]
          omega
        · rw [if_neg (by omega), if_neg (by omega), if_pos (by omega), nt_nI (by omega)]
          omega
      · rw [if_neg e, if_neg (by omega), if_neg (by omega), if_neg (by omega)]
        exact (Nat.add_zero _).symm
    rw [es, hsum]
    have hk : 401 * p + nt (X.1 15 (3 * r + p)) + 1 = 401 * p + (nt (X.1 15 (3 * r + p)) + 1) := by omega
    rw [hk]
    rcases x_take_sold X (r := r) (k := 401 * p + (nt (X.1 15 (3 * r + p)) + 1)) rfl hit.1 (r' := r') hi with q | ⟨q1, q2⟩
    · rw [q]
      exact ⟨v, v1, by split <;> omega⟩
    · have hn := x_rg_j hcm.2.1 (by omega)
      rw [q2, v1, hn.1, nI_add]
      refine ⟨_, rfl, ?_⟩
      rw [if_pos q1]
      omega
  · obtain ⟨b1, a, b, b2, b3, b4, b5, b6⟩ := a7 k hk
    refine ⟨?_, a, b, ?_, ?_, b4, ?_, b6⟩
    · rw [o 24 _ (by decide) (by decide) (by decide) (by decide) (by decide) (by decide) (by decide) (by decide)]
      exact b1.cg (fun a j ho => o a j (by omega) (by omega) (by omega) (by omega) (by omega) (by omega) (by omega) (by omega)) rfl
    · rw [o 28 _ (by decide) (by decide) (by decide) (by decide) (by decide) (by decide) (by decide) (by decide)]; exact b2
    · rw [o 27 _ (by decide) (by decide) (by decide) (by decide) (by decide) (by decide) (by decide) (by decide)]; exact b3
    · rw [o 0 _ (by decide) (by decide) (by decide) (by decide) (by decide) (by decide) (by decide) (by decide)]; exact b5
  · rw [o 0 _ (by decide) (by decide) (by decide) (by decide) (by decide) (by decide) (by decide) (by decide)]; exact a8
theorem IB.cg {Y F : ms_X} (h : IB X E P N) (h1 : ∀ j, Y.1 22 j = X.1 22 j) (h2 : ∀ j, Y.1 23 j = X.1 23 j) (h3 : ∀ j, F.1 0 j = E.1 0 j) (h4 : ∀ j, Y.1 1 j = X.1 1 j := by exact fun _ => rfl) (h5 : ∀ j, Y.1 21 j = X.1 21 j := by exact fun _ => rfl) : IB Y F P N := by
  obtain ⟨a1, a2, a3, a4, a5, a6, a7⟩ := h
  have w : ∀ v, x_wtN Y v N = x_wtN X v N := fun v => wt_cg N (fun k _ => by rw [h2])
  refine ⟨fun s q hs hq hq3 => by rw [h1]; exact a1 s q hs hq hq3, fun k hk => by rw [h2]; exact a2 k hk, ?_, ?_, ?_, ?_, a7.cg h4 h5 h1⟩
  · rw [h3, w]; exact a3
  · rw [h3, w]; exact a4
  · rw [h3, w]; exact a5
  · rw [w]; exact a6
theorem y_WT.cg {Y : ms_X} {g : Nat → Nat} (h : y_WT G X N g) (h2 : ∀ j, Y.1 23 j = X.1 23 j) : y_WT G Y N g := by
  intro k hk hs
  rw [wt_cg (X := X) k (fun j _ => by rw [h2])]
  exact h k hk (by rw [← h2]; exact hs)
/-- how the class stands after an inner call -/
def y_PS (m : am_Mem) (G : cg_G) (X2 : ms_X) (P R N T : Nat) (m' : am_Mem) : Prop := ∃ g' E', y_WT G X2 N g' ∧ IA X2 E' P R N T ∧ IB X2 E' P N ∧ m' = cm (c_sR m (ca G 24 0) g') G X2 E'
theorem IM.cg {Y : ms_X} (h : IM m G X P N) (h1 : ∀ j, Y.1 1 j = X.1 1 j) (h2 : ∀ j, Y.1 2 j = X.1 2 j) : IM m G Y P N := by
  refine ⟨h.1, fun p q hp => ?_, fun a => ⟨(h.2.2 a).1, fun ha => ?_⟩⟩
  · rw [h1, h2]
    exact h.2.1 p q hp
  · obtain ⟨p, q, b1, b2, b3, b4⟩ := (h.2.2 a).2 ha
    exact ⟨p, q, b1, b2, b3, by rw [h1]; exact b4⟩
theorem IM.sR (hL : LC m G P R) (h : IM m G X P N) (g : Nat → Nat) : IM (c_sR m (ca G 24 0) g) G X P N := by
  have e23 : cx G 23 0 := (hL.2.2.1 1 0 3 23 0 hL.2.1 rfl).2
  have e20 : cx G 20 0 := (hL.2.2.1 1 0 0 20 0 hL.2.1 rfl).2
  refine ⟨fun k hk => ⟨?_, (h.1 k hk).2⟩, fun p q hp h1 h2 => ⟨?_, (h.2.1 p q hp h1 h2).2⟩, h.2.2⟩
  · rw [c_sR_Ro (fun e => by have := (cx_inj e23 hL.w e).1; omega)]
    exact (h.1 k hk).1
  · have e2 : cx G 2 p := (hL.2.2.1 20 0 p 2 p e20 (if_pos hp)).2
    have e3 : cx G 3 p := (hL.2.2.1 2 p 0 3 p e2 rfl).2
    rw [c_sR_Ro (fun e => by have := (cx_inj e3 hL.w e).1; omega)]
    exact (h.2.1 p q hp h1 h2).1
set_option maxHeartbeats 1000000 in
theorem y_takeStep (hL0 : LC m G P R) (hM : IM m G X P N) (g : Nat → Nat) (hA : IA X E P R N T) (hB : IB X E P N) (hw : y_WT G X N g) {r p : Nat} (hr : r < R) (hp : p < P) :
    am_W sc 55 0 [.ref (ca G 1 0), .int (nI r), .int (nI p), .retAddr 1, .retAddr 1] [] (cm (c_sR m (ca G 24 0) g) G X E) (am_RE (some (.int (x_adv X P N r p).1)) (y_PS m G (x_adv X P N r p).2 P R N T)) := by
  have h1 := hL0.2.1
  have hP := hL0.2.2.2
  have hL := hL0.sR g
  have hD := (hM.sR hL0 g).2.1 p
  have hW := hA.1
  obtain ⟨w1, w2⟩ := hW.2.2.2.1 r p (by omega) (by omega)
  have w3 := hW.2.2.1 p (by omega)
  have w4 := hA.2.1 p (by omega)
  have w5 := hA.2.2.1 r p hr (by omega)
  obtain ⟨t, ht, htt, ht2⟩ := x_ix_ex w1
  obtain ⟨e, he, het, he2⟩ := x_ix_ex w3
  obtain ⟨z, hz, hzt, hz2⟩ := x_ix_ex w4
  unfold x_adv
  refine am_aload_n iX6_takeStep_0 rfl rfl ?_
  refine y_getR hL (by assumption) iX6_takeStep_1 fX6_takeStep_18 rfl rfl rfl (fun _ => ?_)
  refine am_iload_n iX6_takeStep_4 rfl rfl ?_
  refine y_reps (r) hL (by assumption) iX6_takeStep_5 (by first | rfl | simp only [nI_add, pk_mul, nI_1, nL0, nL1, nL2, nL3, nL4, nL10, nL30, nL300, nL401]) (hr) (fun _ => ?_)
  refine am_astore_n_3 iX6_takeStep_6 rfl rfl ?_
  refine am_aload_n iX6_takeStep_7 rfl rfl ?_
  refine y_getR hL (by assumption) iX6_takeStep_8 fX6_takeStep_11 rfl rfl rfl (fun _ => ?_)
  refine am_iload_n iX6_takeStep_11 rfl rfl ?_
  refine y_logs (p) hL (by assumption) iX6_takeStep_12 (by first | rfl | simp only [nI_add, pk_mul, nI_1, nL0, nL1, nL2, nL3, nL4, nL10, nL30, nL300, nL401]) (hp) (fun _ => ?_)
  refine am_aload_n iX6_takeStep_13 rfl rfl ?_
  refine y_getR hL (by assumption) iX6_takeStep_14 fX6_takeStep_127 rfl rfl rfl (fun _ => ?_)
  refine am_iload_n iX6_takeStep_17 rfl rfl ?_
  refine y_iald (p) hL (by assumption) iX6_takeStep_18 (by first | rfl | simp only [nI_add, pk_mul, nI_1, nL0, nL1, nL2, nL3, nL4, nL10, nL30, nL300, nL401]) ((show p < 3 by omega)) rfl rfl rfl rfl ?_
  rw [ht2]
  refine am_iconst (i := 1) (v := 1) rfl iX6_takeStep_19 ?_
  refine am_iadd iX6_takeStep_20 ?_
  rw [nI_1]
  refine am_cV1r iX6_takeStep_21 cX6_takeStep_206 mX1_commandAt (y_K hL (by assumption) rfl rfl) rfl rfl rfl (y_commandAt hL (by assumption) w3 w4 (fun q q1 q2 => hD q hp q1 q2) _) ?_
  rw [hz2, he2]
  by_cases c0 : t = e
  · rw [if_neg (fun q => absurd ((nI_leI (by omega) (by omega)).mp q.2) (by omega)), if_pos (by rw [c0])]
    refine am_astore_4 iX6_takeStep_24 rfl rfl ?_
    refine am_aload iX6_takeStep_26 rfl ?_
    refine am_ifnonnull iX6_takeStep_28 (fun hc => absurd (rfl) hc) (fun _ => ?_)
    refine am_iconst (i := 0) (v := 0) rfl iX6_takeStep_31 ?_
    exact am_iret iX6_takeStep_32 rfl ⟨rfl, g, E, hw, hA, hB, rfl⟩
  · have hne : ¬ X.1 15 (3 * r + p) = X.1 1 p := by
      rw [ht2, he2]
      exact fun q => c0 ((nI_eq (by omega) (by omega)).mp q)
    obtain ⟨l1, l2⟩ := x_adv_lt hW (show r < 8 by omega) (show p < 3 by omega) hne
    rw [htt, het] at l1
    rw [if_pos ⟨nI_lt (by omega) (by omega), nI_le (by omega) (by omega)⟩, if_neg (by rw [← ht2, ← he2]; exact hne), nt_nI (by omega), nt_nI (by omega)]
    obtain ⟨d1, d2⟩ := hD (t + 1) hp (by omega) (by omega)
    have hc0 := (y_0 hL d2 rfl).1
    refine am_astore_4 iX6_takeStep_24 rfl rfl ?_
    refine am_aload iX6_takeStep_26 rfl ?_
    refine am_ifnonnull iX6_takeStep_28 (fun _ => ?_) (fun hc => absurd hc (by omega))
    refine am_aload_n iX6_takeStep_33 rfl rfl ?_
    refine y_getR hL (by assumption) iX6_takeStep_34 fX6_takeStep_127 rfl rfl rfl (fun _ => ?_)
    refine am_aload iX6_takeStep_37 rfl ?_
    refine y_getR hL (by assumption) iX6_takeStep_39 fX6_takeStep_224 rfl rfl rfl (fun _ => ?_)
    have hat : cx G 13 r := by assumption
    have hnd : cx G 19 (401 * p + (t + 1)) := by assumption
    refine am_cS2r iX6_takeStep_42 cX6_takeStep_274 mX6_covers rfl rfl rfl (y_covers (y_K hL hat rfl rfl) (y_L hL hat rfl) (y_K hL hnd rfl rfl) (y_L hL hnd rfl)) ?_
    obtain ⟨k1, k2, k3⟩ := hA.2.2.2.2.1 p (t + 1) hp (by omega) (by omega)
    rw [y_cov_cg (f' := fun j => X.1 15 (3 * r + j)) (g' := fun j => X.1 7 (3 * (401 * p + (t + 1)) + j)) (fun j hj => ⟨y_I hat hj rfl rfl, y_I hnd hj rfl rfl⟩), y_cov_x (P := P) (by omega) (fun q q1 q2 => ⟨k3 q q1 q2, (hA.2.2.2.1 q q1 q2).2.1 r (by omega)⟩)]
    rw [show 401 * p + t + 1 = 401 * p + (t + 1) by omega]
    cases c1 : x_cov X 7 (3 * (401 * p + (t + 1))) r P
    · refine am_if_ne iX6_takeStep_45 (fun hc => absurd (rfl) hc) (fun _ => ?_)
      rw [if_pos rfl]
      refine am_iconst (i := -1) (v := -1) rfl iX6_takeStep_48 ?_
      exact am_iret iX6_takeStep_49 rfl ⟨rfl, g, E, hw, hA, hB, rfl⟩
    · refine am_if_ne iX6_takeStep_45 (fun _ => ?_) (fun hc => absurd hc (by decide))
      rw [if_neg (by decide)]
      obtain ⟨v1, v2⟩ := hW.2.2.2.2.1 p (t + 1) (by omega) (by omega) (by omega)
      refine am_aload_n iX6_takeStep_50 rfl rfl ?_
      refine y_getR hL (by assumption) iX6_takeStep_51 fX6_takeStep_194 rfl rfl rfl (fun _ => ?_)
      refine am_aload iX6_takeStep_54 rfl ?_
      refine am_cV1v iX6_takeStep_56 cX6_takeStep_278 mX5_take (y_K hL (by assumption) rfl rfl) rfl rfl rfl (y_take hL (by assumption) d2 k1 v1 v2) ?_
      refine am_aload_n iX6_takeStep_59 rfl rfl ?_
      refine y_getR hL (by assumption) iX6_takeStep_60 fX6_takeStep_127 rfl rfl rfl (fun _ => ?_)
      refine am_iload_n iX6_takeStep_63 rfl rfl ?_
      refine am_dup2 iX6_takeStep_64 rfl rfl ?_
      refine y_iald (p) hL (by assumption) iX6_takeStep_65 (by first | rfl | simp only [nI_add, pk_mul, nI_1, nL0, nL1, nL2, nL3, nL4, nL10, nL30, nL300, nL401]) ((show p < 3 by omega)) rfl rfl rfl rfl ?_
      refine am_iconst (i := 1) (v := 1) rfl iX6_takeStep_66 ?_
      refine am_iadd iX6_takeStep_67 ?_
      refine y_iast (p) hL (by assumption) iX6_takeStep_68 (by first | rfl | simp only [nI_add, pk_mul, nI_1, nL0, nL1, nL2, nL3, nL4, nL10, nL30, nL300, nL401]) ((show p < 3 by omega)) rfl rfl rfl rfl ?_
      refine am_aload_n iX6_takeStep_69 rfl rfl ?_
      refine am_iload_n iX6_takeStep_70 rfl rfl ?_
      refine am_aload_n iX6_takeStep_71 rfl rfl ?_
      refine y_getR hL (by assumption) iX6_takeStep_72 fX6_takeStep_11 rfl rfl rfl (fun _ => ?_)
      refine y_alen (len := P) hL (by assumption) iX6_takeStep_75 rfl rfl rfl rfl ?_
      refine am_cS2r iX6_takeStep_76 cX6_takeStep_281 mX6_theNext rfl rfl rfl (y_next hp (by omega)) ?_
      refine y_putI (o := 17) hL (by assumption) iX6_takeStep_79 fX6_takeStep_284 rfl rfl rfl rfl rfl rfl ?_
      have e1 : xU (xU (x_take X r (401 * p + (t + 1))) 15 (3 * r + p) ((x_take X r (401 * p + (t + 1))).1 15 (3 * r + p) + 1)) 17 r (nI ((p + 1) % P)) = x_adv1 X P r p := by
        unfold x_adv1
        rw [htt, show 401 * p + t + 1 = 401 * p + (t + 1) by omega]
      rw [e1]
      have hA1 := hA.adv1 hr hp hne
      have o22 : ∀ j, (x_adv1 X P r p).1 22 j = X.1 22 j := fun j => x_adv1_o X P r p (by decide) (by decide) (by decide) (by decide) (by decide) (by decide) (by decide) (by decide)
      have o23 : ∀ j, (x_adv1 X P r p).1 23 j = X.1 23 j := fun j => x_adv1_o X P r p (by decide) (by decide) (by decide) (by decide) (by decide) (by decide) (by decide) (by decide)
      have hB1 : IB (x_adv1 X P r p) E P N := hB.cg o22 o23 (fun _ => rfl) (fun j => x_adv1_o X P r p (by decide) (by decide) (by decide) (by decide) (by decide) (by decide) (by decide) (by decide)) (fun j => x_adv1_o X P r p (by decide) (by decide) (by decide) (by decide) (by decide) (by decide) (by decide) (by decide))
      refine am_aload_n iX6_takeStep_82 rfl rfl ?_
      refine am_iload_n iX6_takeStep_83 rfl rfl ?_
      refine am_eV1v iX6_takeStep_84 cX6_takeStep_51 mX6_lookAtWaiting (y_K hL (by assumption) rfl rfl) rfl rfl rfl (y_lookAtWaiting hL0 (fun k hk => (hM.1 k hk).2) g hA1 hB1 (hw.cg o23) hr) ?_
      rintro m2 ⟨g', q1, rfl⟩
      have hL := hL0.sR g'
      refine am_iconst (i := 1) (v := 1) rfl iX6_takeStep_87 ?_
      exact am_iret iX6_takeStep_88 rfl ⟨rfl, g', _, q1, hA1.look r, hB1.look hA1 hr, rfl⟩
end
