/-! the class after its constructor -/
section
variable {m : am_Mem} {P R : Nat}
def G0 (P R : Nat) : cg_G := (own P R, adr P R)
def E0 : ms_X := (fun _ _ => 0, fun _ _ => 0)
theorem ini_o {o j : Nat} (h0 : o ≠ 0) (h1 : o ≠ 11) (h2 : o ≠ 18) : (x_ini P R).1 o j = 0 := by
  unfold x_ini
  rw [x_prN_o _ h1, x_upN_o _ h2, xU_o _ _ h0, xU_o _ _ h0]
  rfl
theorem ini_0 {j : Nat} (h0 : j ≠ 0) (h1 : j ≠ 1) : (x_ini P R).1 0 j = 0 := by
  unfold x_ini
  rw [x_prN_o _ (by decide), x_upN_o _ (by decide), xU_j _ _ h1, xU_j _ _ h0]
  rfl
theorem ini_00 : (x_ini P R).1 0 0 = nI P := by
  unfold x_ini
  rw [x_prN_o _ (by decide), x_upN_o _ (by decide), xU_j _ _ (by decide), xU_s]
theorem ini_01 : (x_ini P R).1 0 1 = nI R := by
  unfold x_ini
  rw [x_prN_o _ (by decide), x_upN_o _ (by decide), xU_s]
theorem x_prN_i (X : ms_X) {i : Nat} : ∀ n, i < n → (x_prN X n).1 11 i = 1
  | 0, h => by omega
  | n + 1, h => by
    by_cases e : i = n
    · subst e; exact xU_s _ _ _ _
    · exact (xU_j _ _ e).trans (x_prN_i X n (by omega))
theorem x_upN_i (X : ms_X) {i : Nat} : ∀ n, (x_upN X n).1 18 i = if i < n then 1 else X.1 18 i
  | 0 => (if_neg (by omega)).symm
  | n + 1 => by
    by_cases e : i = n
    · subst e
      rw [if_pos (by omega)]
      exact xU_s _ _ _ _
    · refine (xU_j _ _ e).trans ?_
      rw [x_upN_i X n]
      by_cases h : i < n
      · rw [if_pos h, if_pos (by omega)]
      · rw [if_neg h, if_neg (by omega)]
theorem ini_11 {i : Nat} (h : i < 240) : (x_ini P R).1 11 i = 1 := x_prN_i _ 240 h
theorem ini_18 {i : Nat} : (x_ini P R).1 18 i = if i < R then 1 else 0 := by
  unfold x_ini
  rw [x_prN_o _ (by decide), x_upN_i]
  rfl
theorem x_prN_J (X : ms_X) : ∀ n, (x_prN X n).2 = X.2
  | 0 => rfl
  | n + 1 => x_prN_J X n
theorem x_upN_J (X : ms_X) : ∀ n, (x_upN X n).2 = X.2
  | 0 => rfl
  | n + 1 => x_upN_J X n
theorem ini_J (o j : Nat) : (x_ini P R).2 o j = 0 := by
  unfold x_ini
  rw [x_prN_J, x_upN_J]
  rfl
theorem yJ_ini (q : Nat × Nat) : yJ (x_ini P R) E0 q = 0 := by
  unfold yJ
  split
  · exact ini_J _ _
  · rfl
theorem yI_ini {o i : Nat} (h : o ≠ 0) (h1 : o ≠ 11) (h2 : o ≠ 18) : yI (x_ini P R) E0 (o, i) = 0 := by
  unfold yI
  split
  · exact ini_o h h1 h2
  · rfl
theorem yI_zf {t n j : Nat} {q : Nat × Nat} (h : cvI t n j = some q) (h9 : t = 9 → n < 8) (h4 : t = 4 → n < R) : yI (x_ini P R) E0 q = zf t j := by
  have z : ∀ (t' : Nat), t' ≠ 9 → t' ≠ 4 → zf t' j = 0 := fun t' a b => by
    unfold zf
    rw [if_neg a, if_neg b]
    rfl
  unfold cvI at h
  split at h
  · rw [z _ (by decide) (by decide)]
    split at h
    · split at h
      · obtain rfl := Option.some.inj h; exact (if_pos (by decide)).trans (ini_0 (by decide) (by decide))
      · obtain rfl := Option.some.inj h; exact yI_ini (by decide) (by decide) (by decide)
      · obtain rfl := Option.some.inj h; exact yI_ini (by decide) (by decide) (by decide)
      · obtain rfl := Option.some.inj h; exact yI_ini (by decide) (by decide) (by decide)
      · obtain rfl := Option.some.inj h; exact (if_pos (by decide)).trans (ini_0 (by decide) (by decide))
      · cases h
    · cases h
  · rw [z _ (by decide) (by decide)]
    split at h
    · obtain rfl := Option.some.inj h; exact yI_ini (by decide) (by decide) (by decide)
    · obtain rfl := Option.some.inj h; exact yI_ini (by decide) (by decide) (by decide)
    · cases h
  · split at h
    · obtain rfl := Option.some.inj h; exact yI_ini (by decide) (by decide) (by decide)
    · obtain rfl := Option.some.inj h; exact yI_ini (by decide) (by decide) (by decide)
    · obtain rfl := Option.some.inj h
      have : (x_ini P R).1 18 n = 1 := by rw [ini_18, if_pos (h4 rfl)]
      exact (if_pos (show 18 < 35 by decide)).trans this
    · cases h
  · rw [z _ (by decide) (by decide)]
    split at h
    · obtain rfl := Option.some.inj h; exact yI_ini (by decide) (by decide) (by decide)
    · cases h
  · rw [z _ (by decide) (by decide)]
    split at h
    · obtain rfl := Option.some.inj h; exact yI_ini (by decide) (by decide) (by decide)
    · cases h
  · rw [z _ (by decide) (by decide)]
    split at h
    · obtain rfl := Option.some.inj h; exact yI_ini (by decide) (by decide) (by decide)
    · cases h
  · split at h
    · rename_i hj
      obtain rfl := Option.some.inj h
      have hn := h9 rfl
      have e : (x_ini P R).1 11 (30 * n + j) = 1 := ini_11 (by omega)
      have e2 : zf 9 j = 1 := if_pos hj
      rw [e2]
      exact (if_pos (show 11 < 35 by decide)).trans e
    · cases h
  · rw [z _ (by decide) (by decide)]
    split at h
    · obtain rfl := Option.some.inj h; exact yI_ini (by decide) (by decide) (by decide)
    · cases h
  · rw [z _ (by decide) (by decide)]
    split at h
    · obtain rfl := Option.some.inj h; exact yI_ini (by decide) (by decide) (by decide)
    · cases h
  · rw [z _ (by decide) (by decide)]
    split at h
    · obtain rfl := Option.some.inj h; exact yI_ini (by decide) (by decide) (by decide)
    · cases h
  · rw [z _ (by decide) (by decide)]
    split at h
    · obtain rfl := Option.some.inj h; exact yI_ini (by decide) (by decide) (by decide)
    · obtain rfl := Option.some.inj h; exact yI_ini (by decide) (by decide) (by decide)
    · cases h
  · rw [z _ (by decide) (by decide)]
    split at h
    · obtain rfl := Option.some.inj h; exact yI_ini (by decide) (by decide) (by decide)
    · cases h
  · rw [z _ (by decide) (by decide)]
    split at h
    · obtain rfl := Option.some.inj h; exact yI_ini (by decide) (by decide) (by decide)
    · cases h
  · rw [z _ (by decide) (by decide)]
    split at h
    · obtain rfl := Option.some.inj h; exact yI_ini (by decide) (by decide) (by decide)
    · obtain rfl := Option.some.inj h; exact yI_ini (by decide) (by decide) (by decide)
    · obtain rfl := Option.some.inj h; exact yI_ini (by decide) (by decide) (by decide)
    · obtain rfl := Option.some.inj h; exact yI_ini (by decide) (by decide) (by decide)
    · obtain rfl := Option.some.inj h; exact yI_ini (by decide) (by decide) (by decide)
    · obtain rfl := Option.some.inj h; exact yI_ini (by decide) (by decide) (by decide)
    · obtain rfl := Option.some.inj h; exact yI_ini (by decide) (by decide) (by decide)
    · obtain rfl := Option.some.inj h; exact yI_ini (by decide) (by decide) (by decide)
    · cases h
  · rw [z _ (by decide) (by decide)]
    split at h
    · obtain rfl := Option.some.inj h; exact yI_ini (by decide) (by decide) (by decide)
    · obtain rfl := Option.some.inj h; exact yI_ini (by decide) (by decide) (by decide)
    · obtain rfl := Option.some.inj h; exact yI_ini (by decide) (by decide) (by decide)
    · obtain rfl := Option.some.inj h; exact yI_ini (by decide) (by decide) (by decide)
    · cases h
  · rw [z _ (by decide) (by decide)]
    split at h
    · obtain rfl := Option.some.inj h; exact yI_ini (by decide) (by decide) (by decide)
    · cases h
  · cases h
theorem c_CL.cm (h : c_CL m P R) (hR : R ≤ 4) : m = cm m (G0 P R) (x_ini P R) E0 := by
  have hI : c_ov (own P R) cvI (yI (x_ini P R) E0) m.2.2.2.1 = m.2.2.2.1 := by
    funext a j
    cases hq : cvI (own P R a).1 (own P R a).2 j with
    | none => exact c_ov_n hq
    | some q =>
      rw [c_ov_s hq]
      have ha : (own P R a).1 ≠ 0 := by
        intro z
        rw [z, cvI_0] at hq
        cases hq
      obtain ⟨-, -, b1, -, -, b2, b3, -⟩ := h.ok hR ha
      exact (yI_zf hq b2 b3).trans (b1.2.2.1 j).symm
  have hJ : c_ov (own P R) cvJ (yJ (x_ini P R) E0) m.2.2.2.2.1 = m.2.2.2.2.1 := by
    funext a j
    cases hq : cvJ (own P R a).1 (own P R a).2 j with
    | none => exact c_ov_n hq
    | some q =>
      rw [c_ov_s hq, yJ_ini]
      have ha : (own P R a).1 ≠ 0 := by
        intro z
        rw [z, cvJ_0] at hq
        cases hq
      obtain ⟨-, -, b1, -⟩ := h.ok hR ha
      exact (b1.2.2.2 j).symm
  show m = (m.1, m.2.1, m.2.2.1, c_ov (own P R) cvI (yI (x_ini P R) E0) m.2.2.2.1, c_ov (own P R) cvJ (yJ (x_ini P R) E0) m.2.2.2.2.1, m.2.2.2.2.2)
  rw [hI, hJ]
theorem cx0 {t n : Nat} (ht : t ≠ 0) (h : cx (G0 P R) t n) : adr P R t n ≠ 0 := by
  intro e
  have h : own P R (adr P R t n) = (t, n) := h
  rw [e, own_0] at h
  exact ht (congrArg Prod.fst h).symm
theorem c_CL.lc (h : c_CL m P R) (hP : 1 ≤ P ∧ P ≤ 3) (hR : 1 ≤ R ∧ R ≤ 4) : LC m (G0 P R) P R := by
  refine ⟨fun a ha => ?_, (own_1 : own P R 1 = (1, 0)), fun t n j t' n' he hc => ?_, hP.1, hP.2, hR.1, hR.2⟩
  · obtain ⟨b0, b1, b2, b3, b4, -⟩ := h.ok hR.2 (a := a) ha
    exact ⟨b1, b2.1, b2.2.1, b3, b4⟩
  · have hne := cx0 (crf_0 hc).2 he
    obtain ⟨hn, c1, ⟨r0, r1, r2, r3, r4⟩, f1, f2, f3, c23, c24⟩ := h
    show am_R m (adr P R t n) j = adr P R t' n' ∧ own P R (adr P R t' n') = (t', n')
    unfold crf at hc
    split at hc
    · have n0 : n = 0 := by
        rcases Nat.eq_zero_or_pos n with q | q
        · exact q
        · exact absurd (if_neg (by omega)) hne
      subst n0
      split at hc
      · cases hc; exact ⟨r0, own_2⟩
      · cases hc; exact ⟨r1, own_21⟩
      · cases hc; exact ⟨r2, own_22⟩
      · cases hc; exact ⟨r3, own_23⟩
      · cases hc; exact ⟨r4, own_24⟩
      · cases hc
    · have n0 : n = 0 := by
        rcases Nat.eq_zero_or_pos n with q | q
        · exact q
        · exact absurd (if_neg (by omega)) hne
      subst n0
      split at hc
      · rename_i hj
        cases hc
        have e : adr P R 2 j = 3 + 2 * j := if_pos hj
        rw [e]
        exact ⟨(f1.2 j hj).1, own_L0 hj⟩
      · cases hc
    · have n0 : n = 0 := by
        rcases Nat.eq_zero_or_pos n with q | q
        · exact q
        · exact absurd (if_neg (by omega)) hne
      subst n0
      split at hc
      · rename_i hj
        cases hc
        have e : adr P R 4 j = 4 + 2 * P + 19 * j := if_pos hj
        rw [e]
        exact ⟨(f2.2 j hj).1, own_R (e := 0) hj (by omega)⟩
      · cases hc
    · have n0 : n = 0 := by
        rcases Nat.eq_zero_or_pos n with q | q
        · exact q
        · exact absurd (if_neg (by omega)) hne
      subst n0
      split at hc
      · rename_i hj
        cases hc
        have e : adr P R 14 j = 5 + 2 * P + 19 * R + 3 * j := if_pos hj
        rw [e]
        exact ⟨(f3.2 j hj).1, own_S (e := 0) hj (by omega)⟩
      · cases hc
    · have hnP : n < P := by
        rcases Nat.lt_or_ge n P with q | q
        · exact q
        · exact absurd (if_neg (by omega)) hne
      split at hc
      · rename_i hj
        cases hc
        subst hj
        have e : adr P R 2 n = 3 + 2 * n := if_pos hnP
        have e' : adr P R 3 n = 4 + 2 * n := if_pos hnP
        rw [e, e']
        exact ⟨(f1.2 n hnP).2.2.1.trans (by omega), own_L1 hnP⟩
      · cases hc
    · have hnR : n < R := by
        rcases Nat.lt_or_ge n R with q | q
        · exact q
        · exact absurd (if_neg (by omega)) hne
      have e : adr P R 4 n = 4 + 2 * P + 19 * n := if_pos hnR
      obtain ⟨q1, ⟨q2, q3, q4, q5⟩, -⟩ := (f2.2 n hnR).2
      rw [e]
      split at hc
      · cases hc
        have e' : adr P R 5 n = 4 + 2 * P + 19 * n + 1 := (sad_0 hnR hR.2).trans (by omega)
        rw [e']
        exact ⟨q2, own_R (e := 1) hnR (by omega)⟩
      · cases hc
        have e' : adr P R 5 (4 + n) = 4 + 2 * P + 19 * n + 9 := (sad_4 hnR).trans (by omega)
        rw [e']
        exact ⟨q3, own_R (e := 9) hnR (by omega)⟩
      · cases hc
        have e' : adr P R 13 n = 4 + 2 * P + 19 * n + 17 := by
          show (if n < 4 then (if n < R then 21 + 2 * P + 19 * n else 0) else if n < 4 + R then 22 + 2 * P + 19 * (n - 4) else 0) = _
          rw [if_pos (by omega), if_pos hnR]
          omega
        rw [e']
        exact ⟨q4, own_R (e := 17) hnR (by omega)⟩
      · cases hc
        have e' : adr P R 13 (4 + n) = 4 + 2 * P + 19 * n + 18 := by
          show (if 4 + n < 4 then (if 4 + n < R then 21 + 2 * P + 19 * (4 + n) else 0) else if 4 + n < 4 + R then 22 + 2 * P + 19 * (4 + n - 4) else 0) = _
          rw [if_neg (by omega), if_pos (by omega)]
          omega
        rw [e']
        exact ⟨q5, own_R (e := 18) hnR (by omega)⟩
      · cases hc
    · have hnn : n < R ∨ (4 ≤ n ∧ n < 4 + R) := by
        have hne : sad P R n 0 ≠ 0 := hne
        unfold sad at hne
        split at hne
        · split at hne
          · exact Or.inl (by assumption)
          · exact absurd rfl hne
        · split at hne
          · exact Or.inr ⟨by omega, by assumption⟩
          · exact absurd rfl hne
      rcases hnn with hnR | ⟨hn4, hnR⟩
      · obtain ⟨-, -, ⟨-, s2, -⟩, -⟩ := (f2.2 n hnR).2
        have e : adr P R 5 n = 4 + 2 * P + 19 * n + 1 := (sad_0 hnR hR.2).trans (by omega)
        rw [e]
        split at hc
        · cases hc
          have e' : adr P R 6 n = 4 + 2 * P + 19 * n + 2 := (sad_0 hnR hR.2).trans (by omega)
          rw [e']
          exact ⟨(s2 0 (by omega)).trans (by omega), own_R (e := 2) hnR (by omega)⟩
        · cases hc
          have e' : adr P R 7 n = 4 + 2 * P + 19 * n + 3 := (sad_0 hnR hR.2).trans (by omega)
          rw [e']
          exact ⟨(s2 1 (by omega)).trans (by omega), own_R (e := 3) hnR (by omega)⟩
        · cases hc
          have e' : adr P R 8 n = 4 + 2 * P + 19 * n + 4 := (sad_0 hnR hR.2).trans (by omega)
          rw [e']
          exact ⟨(s2 2 (by omega)).trans (by omega), own_R (e := 4) hnR (by omega)⟩
        · cases hc
          have e' : adr P R 9 n = 4 + 2 * P + 19 * n + 5 := (sad_0 hnR hR.2).trans (by omega)
          rw [e']
          exact ⟨(s2 3 (by omega)).trans (by omega), own_R (e := 5) hnR (by omega)⟩
        · cases hc
          have e' : adr P R 10 n = 4 + 2 * P + 19 * n + 6 := (sad_0 hnR hR.2).trans (by omega)
          rw [e']
          exact ⟨(s2 4 (by omega)).trans (by omega), own_R (e := 6) hnR (by omega)⟩
        · cases hc
          have e' : adr P R 11 n = 4 + 2 * P + 19 * n + 7 := (sad_0 hnR hR.2).trans (by omega)
          rw [e']
          exact ⟨(s2 5 (by omega)).trans (by omega), own_R (e := 7) hnR (by omega)⟩
        · cases hc
          have e' : adr P R 12 n = 4 + 2 * P + 19 * n + 8 := (sad_0 hnR hR.2).trans (by omega)
          rw [e']
          exact ⟨(s2 6 (by omega)).trans (by omega), own_R (e := 8) hnR (by omega)⟩
        · cases hc
      · obtain ⟨r, rfl⟩ : ∃ r, n = 4 + r := ⟨n - 4, by omega⟩
        have hnR : r < R := by omega
        obtain ⟨-, -, -, ⟨-, s2, -⟩, -⟩ := (f2.2 r hnR).2
        have e : adr P R 5 (4 + r) = 4 + 2 * P + 19 * r + 9 := (sad_4 hnR).trans (by omega)
        rw [e]
        split at hc
        · cases hc
          have e' : adr P R 6 (4 + r) = 4 + 2 * P + 19 * r + 10 := (sad_4 hnR).trans (by omega)
          rw [e']
          exact ⟨(s2 0 (by omega)).trans (by omega), own_R (e := 10) hnR (by omega)⟩
        · cases hc
          have e' : adr P R 7 (4 + r) = 4 + 2 * P + 19 * r + 11 := (sad_4 hnR).trans (by omega)
          rw [e']
          exact ⟨(s2 1 (by omega)).trans (by omega), own_R (e := 11) hnR (by omega)⟩
        · cases hc
          have e' : adr P R 8 (4 + r) = 4 + 2 * P + 19 * r + 12 := (sad_4 hnR).trans (by omega)
          rw [e']
          exact ⟨(s2 2 (by omega)).trans (by omega), own_R (e := 12) hnR (by omega)⟩
        · cases hc
          have e' : adr P R 9 (4 + r) = 4 + 2 * P + 19 * r + 13 := (sad_4 hnR).trans (by omega)
          rw [e']
          exact ⟨(s2 3 (by omega)).trans (by omega), own_R (e := 13) hnR (by omega)⟩
        · cases hc
          have e' : adr P R 10 (4 + r) = 4 + 2 * P + 19 * r + 14 := (sad_4 hnR).trans (by omega)
          rw [e']
          exact ⟨(s2 4 (by omega)).trans (by omega), own_R (e := 14) hnR (by omega)⟩
        · cases hc
          have e' : adr P R 11 (4 + r) = 4 + 2 * P + 19 * r + 15 := (sad_4 hnR).trans (by omega)
          rw [e']
          exact ⟨(s2 5 (by omega)).trans (by omega), own_R (e := 15) hnR (by omega)⟩
        · cases hc
          have e' : adr P R 12 (4 + r) = 4 + 2 * P + 19 * r + 16 := (sad_4 hnR).trans (by omega)
          rw [e']
          exact ⟨(s2 6 (by omega)).trans (by omega), own_R (e := 16) hnR (by omega)⟩
        · cases hc
    · have hn8 : n < 8 := by
        rcases Nat.lt_or_ge n 8 with q | q
        · exact q
        · exact absurd (if_neg (by omega)) hne
      have e : adr P R 14 n = 5 + 2 * P + 19 * R + 3 * n := if_pos hn8
      obtain ⟨-, q2, q3, -⟩ := (f3.2 n hn8).2
      rw [e]
      split at hc
      · cases hc
        have e' : adr P R 15 n = 5 + 2 * P + 19 * R + 3 * n + 1 := (if_pos hn8).trans (by omega)
        rw [e']
        exact ⟨q2, own_S (e := 1) hn8 (by omega)⟩
      · cases hc
        have e' : adr P R 16 n = 5 + 2 * P + 19 * R + 3 * n + 2 := (if_pos hn8).trans (by omega)
        rw [e']
        exact ⟨q3, own_S (e := 2) hn8 (by omega)⟩
      · cases hc
    · exact absurd rfl hne
    · cases hc
theorem x_ix_0 {n : Nat} (h : 0 < n) : x_ix 0 n := x_ix_nI (j := 0) h (by omega)
theorem ini_wf (hP : 1 ≤ P ∧ P ≤ 3) (hR : 1 ≤ R ∧ R ≤ 4) : x_Wf (x_ini P R) P R 0 := by
  refine ⟨⟨ini_00, ini_01, hP.1, hP.2, hR.1, hR.2⟩, ⟨ini_0 (by decide) (by decide), by omega, fun k hk => by omega⟩, fun p hp => ?_, fun r p hr hp => ?_, fun p i hp h1 h2 => ?_, fun r hr => ⟨?_, ?_, ?_⟩, fun s hs => ?_⟩
  · rw [ini_o (by decide) (by decide) (by decide)]; exact x_ix_0 (by omega)
  · rw [ini_o (by decide) (by decide) (by decide), ini_o (by decide) (by decide) (by decide)]; exact ⟨x_ix_0 (by omega), Nat.le_refl _⟩
  · rw [ini_o (by decide) (by decide) (by decide)] at h2
    have : nt 0 = 0 := rfl
    omega
  · rw [ini_o (by decide) (by decide) (by decide)]; exact x_ix_0 (by omega)
  · rw [ini_o (by decide) (by decide) (by decide)]; exact x_ix_0 (by omega)
  · rw [ini_18]
    split
    · exact Or.inr rfl
    · exact Or.inl rfl
  · rw [ini_o (by decide) (by decide) (by decide)]; exact x_ix_0 (by omega)
theorem ini_IA (hP : 1 ≤ P ∧ P ≤ 3) (hR : 1 ≤ R ∧ R ≤ 4) : IA (x_ini P R) E0 P R 0 0 := by
  have z : nt 0 = 0 := rfl
  refine ⟨ini_wf hP hR, fun p hp => ?_, fun r p hr hp => ?_, fun q hq hq3 => ⟨?_, fun r hr => ?_, fun s hs => ?_⟩, fun p i hp h1 h2 => ?_, fun r i hr hi => ⟨0, ?_, Nat.zero_le _⟩, fun k hk => by omega, ?_, by omega⟩
  · rw [ini_o (by decide) (by decide) (by decide)]; exact x_ix_0 (by omega)
  · rw [ini_o (by decide) (by decide) (by decide), ini_o (by decide) (by decide) (by decide), ini_o (by decide) (by decide) (by decide)]
    exact ⟨Nat.le_refl _, Nat.le_refl _⟩
  · exact ini_o (by decide) (by decide) (by decide)
  · exact ini_o (by decide) (by decide) (by decide)
  · exact ini_o (by decide) (by decide) (by decide)
  · rw [ini_o (by decide) (by decide) (by decide)] at h2
    omega
  · exact ini_o (by decide) (by decide) (by decide)
  · rw [ini_0 (by decide) (by decide)]; exact x_ix_0 (by omega)
theorem ini_IB : IB (x_ini P R) E0 P 0 := by
  refine ⟨fun s q _ _ _ => ini_o (by decide) (by decide) (by decide), fun k hk => by omega, rfl, rfl, rfl, Nat.zero_le _, fun s q hs hq => ?_⟩
  rw [ini_o (by decide) (by decide) (by decide), ini_o (by decide) (by decide) (by decide), ini_o (by decide) (by decide) (by decide)]
  exact ⟨⟨x_ix_0 (by omega), Nat.le_refl _⟩, x_ix_0 (by omega), Nat.le_refl _⟩
theorem c_CL.inv (h : c_CL m P R) (hP : 1 ≤ P ∧ P ≤ 3) (hR : 1 ≤ R ∧ R ≤ 4) : INV m (G0 P R) (x_ini P R) E0 P R 0 0 := by
  refine ⟨h.lc hP hR, ⟨fun k hk => by omega, fun p q hp h1 h2 => ?_, fun a => ?_⟩, ini_IA hP hR, ini_IB, fun k hk => by omega⟩
  · rw [ini_o (by decide) (by decide) (by decide)] at h2
    have : nt 0 = 0 := rfl
    omega
  · by_cases ha : (own P R a).1 ≠ 0
    · obtain ⟨-, -, -, -, -, -, -, b1, b2, b3⟩ := h.ok hR.2 ha
      refine ⟨fun z => absurd z b1, fun z => ?_⟩
      rcases z with z | z
      · exact absurd z b2
      · exact absurd z b3
    · have ha : (own P R a).1 = 0 := Classical.byContradiction ha
      refine ⟨fun z => absurd (ha.symm.trans z) (by decide), fun z => ?_⟩
      rcases z with z | z
      · exact absurd (ha.symm.trans z) (by decide)
      · exact absurd (ha.symm.trans z) (by decide)
end
