/-! what holds between the calls, of the tables alone -/
section
variable {X Y E F : ms_X} {P R N T : Nat}
theorem wt_mono (X : ms_X) (v : Int32) {a b : Nat} (h : a ≤ b) : x_wtN X v a ≤ x_wtN X v b := by
  obtain ⟨d, rfl⟩ := Nat.exists_eq_add_of_le h
  induction d with
  | zero => exact Nat.le_refl _
  | succ d ih =>
    refine Nat.le_trans (ih (by omega)) ?_
    show _ ≤ x_wtN X v (a + d) + _
    omega
theorem wt_lt {X : ms_X} {v : Int32} {k n : Nat} (h : X.1 23 k = v) (hk : k < n) : x_wtN X v k < x_wtN X v n := by
  have h1 : x_wtN X v (k + 1) = x_wtN X v k + 1 := by
    show x_wtN X v k + (if X.1 23 k = v then 1 else 0) = _
    rw [if_pos h]
  have := wt_mono X v (show k + 1 ≤ n from hk)
  omega
theorem wt_s {X : ms_X} {v : Int32} {k : Nat} (h : X.1 23 k = v) : x_wtN X v (k + 1) = x_wtN X v k + 1 := by
  show x_wtN X v k + (if X.1 23 k = v then 1 else 0) = _
  rw [if_pos h]
theorem wt_n {X : ms_X} {v : Int32} {k : Nat} (h : ¬ X.1 23 k = v) : x_wtN X v (k + 1) = x_wtN X v k := by
  show x_wtN X v k + (if X.1 23 k = v then 1 else 0) = _
  rw [if_neg h]
  rfl
theorem wt_cg {v : Int32} : ∀ n, (∀ k, k < n → (Y.1 23 k = v ↔ X.1 23 k = v)) → x_wtN Y v n = x_wtN X v n
  | 0, _ => rfl
  | n + 1, h => by
    have ih := wt_cg n (fun k hk => h k (by omega))
    by_cases c : X.1 23 n = v
    · rw [wt_s c, wt_s ((h n (by omega)).mpr c), ih]
    · rw [wt_n c, wt_n (fun q => c ((h n (by omega)).mp q)), ih]
theorem wt_sub {v : Int32} : ∀ n, (∀ k, k < n → Y.1 23 k = v → X.1 23 k = v) → x_wtN Y v n ≤ x_wtN X v n
  | 0, _ => Nat.le_refl _
  | n + 1, h => by
    have ih := wt_sub n (fun k hk => h k (by omega))
    by_cases c : Y.1 23 n = v
    · rw [wt_s c, wt_s (h n (by omega) c)]; omega
    · rw [wt_n c]
      have := wt_mono X v (show n ≤ n + 1 by omega)
      omega
/-- one more: the state of k alone changes, to v -/
theorem wt_more {v : Int32} {k : Nat} (h1 : Y.1 23 k = v) (h2 : ¬ X.1 23 k = v) (h3 : ∀ j, j ≠ k → Y.1 23 j = X.1 23 j) : ∀ n, k < n → x_wtN Y v n = x_wtN X v n + 1
  | 0, h => by omega
  | n + 1, h => by
    by_cases e : n = k
    · subst e
      rw [wt_s h1, wt_n h2, wt_cg (X := X) (Y := Y) n (fun j hj => by rw [h3 j (by omega)])]
    · have ih := wt_more h1 h2 h3 n (by omega)
      by_cases c : X.1 23 n = v
      · rw [wt_s c, wt_s ((h3 n e).trans c), ih]
      · rw [wt_n c, wt_n (fun q => c ((h3 n e).symm.trans q)), ih]
theorem wt_same {v : Int32} {k : Nat} (h1 : ¬ Y.1 23 k = v) (h2 : ¬ X.1 23 k = v) (h3 : ∀ j, j ≠ k → Y.1 23 j = X.1 23 j) (n : Nat) : x_wtN Y v n = x_wtN X v n :=
  wt_cg n (fun j _ => by
    by_cases e : j = k
    · subst e; exact ⟨fun q => absurd q h1, fun q => absurd q h2⟩
    · rw [h3 j e])
/-- of all rows but 22, 23, 31, 34 -/
def IA (X E : ms_X) (P R N T : Nat) : Prop :=
  x_Wf X P R N ∧ (∀ p, p < 3 → x_ix (X.1 2 p) 401) ∧ (∀ r p, r < R → p < 3 → nt (X.1 2 p) ≤ nt (X.1 15 (3 * (4 + r) + p)) ∧ nt (X.1 15 (3 * (4 + r) + p)) ≤ nt (X.1 15 (3 * r + p))) ∧
  (∀ q, P ≤ q → q < 3 → X.1 1 q = 0 ∧ (∀ r, r < 8 → X.1 15 (3 * r + q) = 0) ∧ ∀ s, s < 8 → X.1 21 (3 * s + q) = 0) ∧
  (∀ p i, p < P → 1 ≤ i → i ≤ nt (X.1 1 p) → x_ix (X.1 3 (401 * p + i)) 5 ∧ x_rg (X.1 6 (401 * p + i)) 1 1000 = true ∧ ∀ q, P ≤ q → q < 3 → X.1 7 (3 * (401 * p + i) + q) = 0) ∧
  (∀ r i, r < 8 → i < 30 → ∃ v, X.1 10 (30 * r + i) = nI v ∧ v ≤ 1000 * (nt (X.1 15 (3 * r)) + nt (X.1 15 (3 * r + 1)) + nt (X.1 15 (3 * r + 2)))) ∧
  (∀ k, k < N → y_rd X E k (nt (X.1 24 k)) P ∧ ∃ a b, X.1 28 k = nI a ∧ X.1 27 k = nI b ∧ b ≤ 1000 ∧ a ≤ nt (X.1 0 3) ∧ E.1 1 k = nI (a + b)) ∧ x_ix (X.1 0 3) (T + 1) ∧ T ≤ 1000000
/-- what sessions wrote and saw is in the logs -/
def x_SW (X : ms_X) : Prop := ∀ s q, s < 8 → q < 3 → (x_ix (X.1 22 (3 * s + q)) 401 ∧ nt (X.1 22 (3 * s + q)) ≤ nt (X.1 1 q)) ∧ x_ix (X.1 21 (3 * s + q)) 401 ∧ nt (X.1 21 (3 * s + q)) ≤ nt (X.1 1 q)
theorem x_SW.cg (h : x_SW X) (h1 : ∀ j, Y.1 1 j = X.1 1 j) (h2 : ∀ j, Y.1 21 j = X.1 21 j) (h3 : ∀ j, Y.1 22 j = X.1 22 j) : x_SW Y := by
  intro s q hs hq
  rw [h1, h2, h3]
  exact h s q hs hq
theorem x_SW.see (h : x_SW X) {r : Nat} (hA : ∀ p, p < 3 → x_ix (X.1 15 (3 * r + p)) 401 ∧ nt (X.1 15 (3 * r + p)) ≤ nt (X.1 1 p)) (s : Nat) : ∀ n, n ≤ 3 → x_SW (x_see X r s n)
  | 0, _ => h
  | n + 1, hn => by
    have ih := x_SW.see h hA s n (by omega)
    intro s' q hs hq
    obtain ⟨b1, b2⟩ := ih s' q hs hq
    refine ⟨?_, b2⟩
    have e1 : (x_see X r s (n + 1)).1 1 q = (x_see X r s n).1 1 q := xU_o _ _ (by decide)
    rw [e1]
    by_cases e : 3 * s' + q = 3 * s + n
    · have eq : q = n := by omega
      have es : s' = s := by omega
      subst eq
      subst es
      have e2 : (x_see X r s' (q + 1)).1 22 (3 * s' + q) = (if (x_see X r s' q).1 22 (3 * s' + q) ≤ (x_see X r s' q).1 15 (3 * r + q) then (x_see X r s' q).1 15 (3 * r + q) else (x_see X r s' q).1 22 (3 * s' + q)) := xU_s _ _ _ _
      rw [e2]
      split
      · rw [x_see_o _ _ _ (by decide), x_see_o _ _ _ (by decide)]
        exact hA q hq
      · exact b1
    · have e2 : (x_see X r s (n + 1)).1 22 (3 * s' + q) = (x_see X r s n).1 22 (3 * s' + q) := xU_j _ _ e
      rw [e2]
      exact b1
theorem x_SW.ans (h : x_SW X) (hP : P ≤ 3) {r k : Nat} (hA : ∀ p, p < 3 → x_ix (X.1 15 (3 * r + p)) 401 ∧ nt (X.1 15 (3 * r + p)) ≤ nt (X.1 1 p)) : x_SW (x_ans X P r k) := by
  unfold x_ans
  refine x_SW.see (h.cg (fun _ => x_ans0_o _ _ _ _ (by decide) (by decide) (by decide)) (fun _ => x_ans0_o _ _ _ _ (by decide) (by decide) (by decide)) (fun _ => x_ans0_o _ _ _ _ (by decide) (by decide) (by decide))) (fun p hp => ?_) _ P hP
  rw [x_ans0_o _ _ _ _ (by decide) (by decide) (by decide), x_ans0_o _ _ _ _ (by decide) (by decide) (by decide)]
  exact hA p hp
theorem x_SW.look (h : x_SW X) (hP : P ≤ 3) {r : Nat} (hA : ∀ p, p < 3 → x_ix (X.1 15 (3 * r + p)) 401 ∧ nt (X.1 15 (3 * r + p)) ≤ nt (X.1 1 p)) : ∀ n, x_SW (x_lookN X P r n)
  | 0 => h
  | n + 1 => by
    have ih := x_SW.look h hP hA n
    unfold x_lookN
    split
    · refine ih.ans hP (fun p hp => ?_)
      rw [x_look_o _ _ _ (by decide) (by decide) (by decide) (by decide), x_look_o _ _ _ (by decide) (by decide) (by decide) (by decide)]
      exact hA p hp
    · exact ih
/-- of rows 22 and 23, and the counters -/
def IB (X E : ms_X) (P N : Nat) : Prop :=
  (∀ s q, s < 8 → P ≤ q → q < 3 → X.1 22 (3 * s + q) = 0) ∧ (∀ k, k < N → X.1 23 k = 0 ∨ X.1 23 k = 1 ∨ X.1 23 k = 2) ∧
  E.1 0 0 = nI (x_wtN X 0 N) ∧ E.1 0 1 = nI (x_wtN X 1 N) ∧ E.1 0 2 = nI (x_wtN X 2 N) ∧ x_wtN X 0 N ≤ 40 ∧ x_SW X
theorem y_rd.cg {k s : Nat} (h : y_rd X E k s P) (h1 : ∀ o j, o = 24 ∨ o = 25 ∨ o = 26 ∨ o = 29 ∨ o = 30 → Y.1 o j = X.1 o j) (h2 : F.2 1 k = E.2 1 k) : y_rd Y F k s P := by
  obtain ⟨a1, a2, a3, a4, a5⟩ := h
  refine ⟨a1, ?_, fun q hq => ?_, ?_, ?_⟩
  · rw [h1 24 _ (by omega)]; exact a2
  · rw [h1 25 _ (by omega), h2]; exact a3 q hq
  · rw [h1 26 _ (by omega)]; exact a4
  · rw [h1 29 _ (by omega), h1 30 _ (by omega)]; exact a5
theorem IA.cg (h : IA X E P R N T) (h0 : ∀ j, j ≠ 2 → Y.1 0 j = X.1 0 j) (h1 : ∀ o j, o ≠ 0 → o ≠ 22 → o ≠ 23 → o ≠ 31 → o ≠ 34 → Y.1 o j = X.1 o j) (h2 : ∀ k, k < N → F.2 1 k = E.2 1 k) (h3 : ∀ k, k < N → F.1 1 k = E.1 1 k) : IA Y F P R N T := by
  obtain ⟨a1, a2, a3, a4, a5, a6, a7, a8, a9⟩ := h
  refine ⟨a1.cg (fun j hj _ => h0 j hj) (fun o j ho => by obtain ⟨b0, -, -, -, -, -, -, b1, b2, b3, b4, -⟩ := x_ws_ne ho; exact h1 o j b0 b1 b2 b3 b4), fun p hp => ?_, fun r p hr hp => ?_, fun q hq hq3 => ?_, fun p i hp hi1 hi2 => ?_, fun r i hr hi => ?_, fun k hk => ?_, ?_, a9⟩
  · rw [h1 2 _ (by decide) (by decide) (by decide) (by decide) (by decide)]; exact a2 p hp
  · rw [h1 2 _ (by decide) (by decide) (by decide) (by decide) (by decide), h1 15 _ (by decide) (by decide) (by decide) (by decide) (by decide), h1 15 _ (by decide) (by decide) (by decide) (by decide) (by decide)]; exact a3 r p hr hp
  · obtain ⟨b1, b2, b3⟩ := a4 q hq hq3
    refine ⟨?_, fun r hr => ?_, fun s hs => ?_⟩
    · rw [h1 1 _ (by decide) (by decide) (by decide) (by decide) (by decide)]; exact b1
    · rw [h1 15 _ (by decide) (by decide) (by decide) (by decide) (by decide)]; exact b2 r hr
    · rw [h1 21 _ (by decide) (by decide) (by decide) (by decide) (by decide)]; exact b3 s hs
  · rw [h1 1 _ (by decide) (by decide) (by decide) (by decide) (by decide)] at hi2
    obtain ⟨b1, b2, b3⟩ := a5 p i hp hi1 hi2
    refine ⟨?_, ?_, fun q hq hq3 => ?_⟩
    · rw [h1 3 _ (by decide) (by decide) (by decide) (by decide) (by decide)]; exact b1
    · rw [h1 6 _ (by decide) (by decide) (by decide) (by decide) (by decide)]; exact b2
    · rw [h1 7 _ (by decide) (by decide) (by decide) (by decide) (by decide)]; exact b3 q hq hq3
  · rw [h1 10 _ (by decide) (by decide) (by decide) (by decide) (by decide), h1 15 _ (by decide) (by decide) (by decide) (by decide) (by decide), h1 15 _ (by decide) (by decide) (by decide) (by decide) (by decide), h1 15 _ (by decide) (by decide) (by decide) (by decide) (by decide)]
    exact a6 r i hr hi
  · obtain ⟨b1, a, b, b2, b3, b4, b5, b6⟩ := a7 k hk
    refine ⟨?_, a, b, ?_, ?_, b4, ?_, ?_⟩
    · rw [h1 24 _ (by decide) (by decide) (by decide) (by decide) (by decide)]
      exact b1.cg (fun o j ho => h1 o j (by omega) (by omega) (by omega) (by omega) (by omega)) (h2 k hk)
    · rw [h1 28 _ (by decide) (by decide) (by decide) (by decide) (by decide)]; exact b2
    · rw [h1 27 _ (by decide) (by decide) (by decide) (by decide) (by decide)]; exact b3
    · rw [h0 3 (by decide)]; exact b5
    · rw [h3 k hk]; exact b6
  · rw [h0 3 (by decide)]; exact a8
theorem x_see_hi (X : ms_X) (r s : Nat) {s' q : Nat} (hq : P ≤ q) (hq3 : q < 3) : ∀ n, n ≤ P → (x_see X r s n).1 22 (3 * s' + q) = X.1 22 (3 * s' + q)
  | 0, _ => rfl
  | n + 1, hn => (xU_j _ _ (by omega)).trans (x_see_hi X r s hq hq3 n (by omega))
theorem x_ans_hi (X : ms_X) (r k : Nat) {s' q : Nat} (hq : P ≤ q) (hq3 : q < 3) : (x_ans X P r k).1 22 (3 * s' + q) = X.1 22 (3 * s' + q) := by
  unfold x_ans
  rw [x_see_hi _ _ _ hq hq3 P (Nat.le_refl _), x_ans0_o _ _ _ _ (by decide) (by decide) (by decide)]
theorem x_ans_st (X : ms_X) (r k j : Nat) : (x_ans X P r k).1 23 j = if j = k then 1 else X.1 23 j := by
  unfold x_ans x_ans0
  rw [x_see_o _ _ _ (by decide), xU_o _ _ (by decide), xV_I, xV_I, xU_o _ _ (by decide)]
  split
  · rename_i e; subst e; exact xU_s _ _ _ _
  · rename_i e; exact xU_j _ _ e
theorem x_look_hi (X : ms_X) (r : Nat) {s' q : Nat} (hq : P ≤ q) (hq3 : q < 3) : ∀ n, (x_lookN X P r n).1 22 (3 * s' + q) = X.1 22 (3 * s' + q)
  | 0 => rfl
  | n + 1 => by
    unfold x_lookN
    split
    · rw [x_ans_hi _ _ _ hq hq3]; exact x_look_hi X r hq hq3 n
    · exact x_look_hi X r hq hq3 n
theorem x_look_up (X : ms_X) (r : Nat) {j : Nat} : ∀ n, n ≤ j → (x_lookN X P r n).1 23 j = X.1 23 j
  | 0, _ => rfl
  | n + 1, h => by
    unfold x_lookN
    split
    · rw [x_ans_st, if_neg (by omega)]; exact x_look_up X r n (by omega)
    · exact x_look_up X r n (by omega)
theorem x_look_st (X : ms_X) (r j : Nat) : ∀ n, (x_lookN X P r n).1 23 j = X.1 23 j ∨ (X.1 23 j = 0 ∧ (x_lookN X P r n).1 23 j = 1)
  | 0 => Or.inl rfl
  | n + 1 => by
    have ih := x_look_st X r j n
    unfold x_lookN
    split
    · rename_i h
      rw [x_ans_st]
      split
      · rename_i e
        subst e
        rw [x_look_up X r j (Nat.le_refl _)] at h
        exact Or.inr ⟨h.1, rfl⟩
      · exact ih
    · exact ih
def y_lE (X E : ms_X) (P r N : Nat) : ms_X := xU (xU E 0 1 (nI (x_wtN (x_lookN X P r N) 1 N))) 0 0 (nI (x_wtN (x_lookN X P r N) 0 N))
theorem IB.look (h : IB X E P N) (hA : IA X E P R N T) {r : Nat} (hr : r < R) : IB (x_lookN X P r N) (y_lE X E P r N) P N := by
  have hR4 := hA.1.1.2.2.2.2.2
  obtain ⟨a1, a2, a3, a4, a5, a6, a7⟩ := h
  have hs : x_wtN (x_lookN X P r N) 0 N ≤ x_wtN X 0 N := wt_sub N (fun k _ hq => by
    rcases x_look_st (P := P) X r k N with q | q
    · exact q.symm.trans hq
    · exact q.1)
  refine ⟨fun s q hs hq hq3 => by rw [x_look_hi X r hq hq3]; exact a1 s q hs hq hq3, fun k hk => ?_, xU_s _ _ _ _, ?_, ?_, by omega, a7.look hA.1.1.2.2.2.1 (fun p hp => hA.1.2.2.2.1 r p (by omega) hp) N⟩
  · rcases x_look_st (P := P) X r k N with q | q
    · rw [q]; exact a2 k hk
    · exact Or.inr (Or.inl q.2)
  · exact (xU_j _ _ (by decide)).trans (xU_s _ _ _ _)
  · refine ((xU_j _ _ (by decide)).trans (xU_j _ _ (by decide))).trans (a5.trans (congrArg nI (wt_cg N (fun k _ => ?_)).symm))
    rcases x_look_st (P := P) X r k N with q | q
    · rw [q]
    · rw [q.1, q.2]; decide
theorem IA.look (h : IA X E P R N T) (r : Nat) : IA (x_lookN X P r N) (y_lE X E P r N) P R N T :=
  h.cg (fun j _ => x_look_o X P r (by decide) (by decide) (by decide) (by decide) N) (fun o j _ h1 h2 h3 h4 => x_look_o X P r h1 h2 h3 h4 N) (fun _ _ => rfl) (fun k _ => by
    unfold y_lE
    rw [xU_o _ _ (by decide), xU_o _ _ (by decide)])
theorem IA.S (h : IA X E P R N T) {r : Nat} (hr : r < 8) : y_S X r := by
  intro i hi
  obtain ⟨v, h1, h2⟩ := h.2.2.2.2.2.1 r i hr hi
  have b0 := (h.1.2.2.2.1 r 0 hr (by omega)).1.1
  have b1 := (h.1.2.2.2.1 r 1 hr (by omega)).1.1
  have b2 := (h.1.2.2.2.1 r 2 hr (by omega)).1.1
  rw [h1, nI_toInt (by
    have : 3 * r + 0 = 3 * r := by omega
    rw [this] at b0
    omega)]
  omega
end
