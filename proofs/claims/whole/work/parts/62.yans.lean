/-! the class: ranks, answers, copies of states -/
theorem php : ∀ (n : Nat) (f : Nat → Nat), (∀ i, i ≤ n → f i < n) → ∃ i j, i < j ∧ j ≤ n ∧ f i = f j := by
  intro n
  induction n with
  | zero => intro f h; exact absurd (h 0 (Nat.le_refl _)) (by omega)
  | succ n ih =>
    intro f h
    by_cases hv : ∃ i, i ≤ n ∧ f i = f (n + 1)
    · obtain ⟨i, hi, he⟩ := hv
      exact ⟨i, n + 1, by omega, by omega, he⟩
    · have hne : ∀ i, i ≤ n → f i ≠ f (n + 1) := fun i hi q => hv ⟨i, hi, q⟩
      have hb := h (n + 1) (by omega)
      obtain ⟨i, j, h1, h2, h3⟩ := ih (fun i => if f (n + 1) < f i then f i - 1 else f i) (fun i hi => by
        have h4 := h i (by omega)
        have h5 := hne i hi
        show (if f (n + 1) < f i then f i - 1 else f i) < n
        split <;> omega)
      refine ⟨i, j, h1, by omega, ?_⟩
      have h5 := hne i (by omega)
      have h6 := hne j (by omega)
      have h3 : (if f (n + 1) < f i then f i - 1 else f i) = (if f (n + 1) < f j then f j - 1 else f j) := h3
      split at h3 <;> split at h3 <;> omega
theorem php_s {n : Nat} {f : Nat → Nat} (h : ∀ i, i < n → f i < n) (hi : ∀ i j, i < j → j < n → f i ≠ f j) {a : Nat} (ha : a < n) : ∃ k, k < n ∧ f k = a := by
  obtain ⟨i, j, h1, h2, h3⟩ := php n (fun i => if i < n then f i else a) (fun i _ => by
    show (if i < n then f i else a) < n
    split
    · exact h i ‹_›
    · exact ha)
  have h3 : (if i < n then f i else a) = (if j < n then f j else a) := h3
  rw [if_pos (by omega)] at h3
  split at h3
  · exact absurd h3 (hi i j h1 ‹_›)
  · exact ⟨i, by omega, h3⟩
section
variable {sc : Nat × (Nat → Int32)} {m : am_Mem} {G : cg_G} {X E : ms_X} {P R : Nat}
/-- n comes before k -/
abbrev y_B (X : ms_X) (r n k : Nat) : Prop := X.1 10 (30 * r + k) < X.1 10 (30 * r + n) ∨ (X.1 10 (30 * r + n) = X.1 10 (30 * r + k) ∧ n < k)
theorem y_B_i (X : ms_X) (r n : Nat) : ¬ y_B X r n n := fun h => h.elim (fun q => Int32.lt_irrefl q) (fun q => Nat.lt_irrefl _ q.2)
theorem y_B_t {X : ms_X} {r n k l : Nat} (h1 : y_B X r n k) (h2 : y_B X r k l) : y_B X r n l := by
  rcases h1 with h1 | ⟨h1, h1'⟩
  · rcases h2 with h2 | ⟨h2, h2'⟩
    · exact Or.inl (Int32.lt_trans h2 h1)
    · exact Or.inl (h2 ▸ h1)
  · rcases h2 with h2 | ⟨h2, h2'⟩
    · exact Or.inl (h1.symm ▸ h2)
    · exact Or.inr ⟨h1.trans h2, by omega⟩
theorem y_B_o (X : ms_X) (r : Nat) {n k : Nat} (h : n < k) : y_B X r n k ∨ y_B X r k n := by
  show (_ ∨ _) ∨ (_ ∨ _)
  by_cases h1 : X.1 10 (30 * r + k) < X.1 10 (30 * r + n)
  · exact Or.inl (Or.inl h1)
  · by_cases h2 : X.1 10 (30 * r + n) < X.1 10 (30 * r + k)
    · exact Or.inr (Or.inl h2)
    · exact Or.inl (Or.inr ⟨Int32.le_antisymm (Int32.not_lt.mp h1) (Int32.not_lt.mp h2), h⟩)
theorem y_bef_b (X : ms_X) (r k : Nat) : ∀ n, y_bef X r k (n + 1) = y_bef X r k n + (if y_B X r n k then 1 else 0) := fun _ => rfl
theorem y_bef_m {X : ms_X} {r k1 k2 : Nat} (h : y_B X r k1 k2) : ∀ n, y_bef X r k1 n + (if k1 < n then 1 else 0) ≤ y_bef X r k2 n
  | 0 => Nat.le_refl _
  | n + 1 => by
    have ih := y_bef_m h n
    rw [y_bef_b, y_bef_b]
    by_cases e : n = k1
    · subst e
      rw [if_neg (y_B_i X r n), if_pos h]
      rw [if_neg (Nat.lt_irrefl _)] at ih
      rw [if_pos (by omega)]
      omega
    · by_cases hb : y_B X r n k1
      · rw [if_pos hb, if_pos (y_B_t hb h)]
        split at ih <;> split <;> omega
      · rw [if_neg hb]
        split at ih <;> split <;> omega
theorem y_bef_lt (X : ms_X) (r k : Nat) : ∀ n, y_bef X r k n + (if k < n then 1 else 0) ≤ n
  | 0 => Nat.le_refl _
  | n + 1 => by
    have ih := y_bef_lt X r k n
    rw [y_bef_b]
    by_cases e : n = k
    · subst e
      rw [if_neg (y_B_i X r n)]
      rw [if_neg (Nat.lt_irrefl _)] at ih
      split <;> omega
    · split at ih <;> split <;> split <;> omega
theorem y_bef_ne (X : ms_X) (r : Nat) {i j : Nat} (h : i < j) (hj : j < 30) : y_bef X r i 30 ≠ y_bef X r j 30 := by
  rcases y_B_o X r h with q | q
  · have := y_bef_m q 30
    rw [if_pos (by omega)] at this
    omega
  · have := y_bef_m q 30
    rw [if_pos hj] at this
    omega
theorem i_sub {a b : Int32} (ha : 0 ≤ a.toInt) (hb : 0 ≤ b.toInt) : (a - b).toInt = a.toInt - b.toInt := by
  rw [Int32.toInt_sub]
  have h1 := a.toInt_lt
  have h2 := b.toInt_lt
  rw [Int.bmod_def]
  split <;> omega
/-- none of the sold is negative -/
def y_S (X : ms_X) (r : Nat) : Prop := ∀ i, i < 30 → 0 ≤ (X.1 10 (30 * r + i)).toInt
theorem y_bef_x {r : Nat} (hS : y_S X r) {k : Nat} (hk : k < 30) : ∀ n, n ≤ 30 → x_bef X r k n = y_bef X r k n
  | 0, _ => rfl
  | n + 1, hn => by
    have ih := y_bef_x hS hk n (by omega)
    have e := i_sub (hS n (by omega)) (hS k hk)
    unfold x_bef y_bef
    rw [ih]
    have c : (0 < X.1 10 (30 * r + n) - X.1 10 (30 * r + k) ∨ (X.1 10 (30 * r + n) - X.1 10 (30 * r + k) = 0 ∧ n < k)) ↔ (X.1 10 (30 * r + k) < X.1 10 (30 * r + n) ∨ (X.1 10 (30 * r + n) = X.1 10 (30 * r + k) ∧ n < k)) := by
      rw [Int32.lt_iff_toInt_lt, Int32.lt_iff_toInt_lt, ← Int32.toInt_inj, ← Int32.toInt_inj, e, Int32.toInt_zero]
      omega
    by_cases hc : (X.1 10 (30 * r + k) < X.1 10 (30 * r + n) ∨ (X.1 10 (30 * r + n) = X.1 10 (30 * r + k) ∧ n < k))
    · rw [if_pos hc, if_pos (c.mpr hc)]
    · rw [if_neg hc, if_neg (fun q => hc (c.mp q))]
theorem y_rnk_x {r j : Nat} (hS : y_S X r) (hj : j < 30) : y_rnk X r (nI j) 30 0 = x_rnk X r (nI j) 30 := by
  obtain ⟨k, hk, he⟩ := php_s (n := 30) (f := fun k => y_bef X r k 30) (fun i hi => by
    have := y_bef_lt X r i 30
    rw [if_pos hi] at this
    show y_bef X r i 30 < 30
    omega) (fun i j h1 h2 => y_bef_ne X r h1 h2) hj
  have he : y_bef X r k 30 = j := he
  have uq : ∀ i, i < 30 → (nI (y_bef X r i 30) = nI j ↔ i = k) := by
    intro i hi
    have hb := y_bef_le X r i 30
    rw [nI_eq (by omega) (by omega)]
    constructor
    · intro q
      rcases Nat.lt_trichotomy i k with h | h | h
      · exact absurd (q.trans he.symm) (y_bef_ne X r h hk)
      · exact h
      · exact absurd (he.trans q.symm) (y_bef_ne X r h hi)
    · intro q; rw [q]; exact he
  have h1 : ∀ d i, i + d = 30 → i ≤ k → y_rnk X r (nI j) d i = nI k := by
    intro d
    induction d with
    | zero => intro i h1 h2; omega
    | succ d ih =>
      intro i h1 h2
      unfold y_rnk
      by_cases e : i = k
      · rw [if_pos ((uq i (by omega)).mpr e), e]
      · rw [if_neg (fun q => e ((uq i (by omega)).mp q))]
        exact ih (i + 1) (by omega) (by omega)
  have h2 : ∀ n, n ≤ 30 → k < n → x_rnk X r (nI j) n = nI k := by
    intro n
    induction n with
    | zero => intro _ h; omega
    | succ n ih =>
      intro hn h
      unfold x_rnk
      rw [y_bef_x hS (by omega) 30 (Nat.le_refl _)]
      by_cases e : n = k
      · rw [if_pos ((uq n (by omega)).mpr e), e]
      · rw [if_neg (fun q => e ((uq n (by omega)).mp q))]
        exact ih (by omega) (by omega)
  rw [h1 30 0 rfl (by omega), h2 30 (Nat.le_refl _) hk]
theorem x_isQ_k {kd a : Int32} (h : x_isQ P kd a = true) : ∃ j : Nat, j < 9 ∧ kd = nI j ∧ ((j < 4 ∨ j = 7) → x_ix a 30) ∧ ((4 ≤ j ∧ j < 7) → x_ix a 10) ∧ (j = 8 → x_rg a (-1) ((P : Int) - 1) = true) := by
  unfold x_isQ at h
  split at h
  · cases h
  · rename_i h0
    have h1 : ¬ kd < 0 := fun q => h0 (Or.inl q)
    have h2 : kd ≤ 8 := Classical.byContradiction (fun q => h0 (Or.inr q))
    obtain ⟨j, hj, rfl⟩ := nI_of h1
    have h3 : j ≤ 8 := (nI_leI (a := j) (b := 8) hj (by omega)).mp h2
    refine ⟨j, by omega, rfl, ?_⟩
    have c1 : (nI j < 4 ∨ nI j = 7) ↔ (j < 4 ∨ j = 7) := by
      rw [show (nI j < 4) ↔ j < 4 from nI_ltI (a := j) (b := 4) hj (by omega), show (nI j = 7) ↔ j = 7 from nI_eq (a := j) (b := 7) hj (by omega)]
    have c2 : (nI j < 7) ↔ j < 7 := nI_ltI (a := j) (b := 7) hj (by omega)
    split at h
    · rename_i h4
      have h5 := c1.mp h4
      exact ⟨fun _ => x_rg_ix h (by omega), fun q => by omega, fun q => by omega⟩
    · rename_i h4
      have h5 : ¬ (j < 4 ∨ j = 7) := fun q => h4 (c1.mpr q)
      split at h
      · exact ⟨fun q => absurd q h5, fun _ => x_rg_ix h (by omega), fun q => by rename_i h6; have := c2.mp h6; omega⟩
      · rename_i h6
        have h7 : ¬ j < 7 := fun q => h6 (c2.mpr q)
        exact ⟨fun q => absurd q h5, fun q => by omega, fun _ => h⟩
theorem x_rgm {a : Int32} {b : Int} (h : x_rg a (-1) b = true) : a < 0 ↔ a = -1 := by
  have h1 := of_decide_eq_true h
  rw [Int32.lt_iff_toInt_lt, ← Int32.toInt_inj, Int32.toInt_zero, show (-1 : Int32).toInt = -1 by decide]
  omega
set_option maxHeartbeats 1000000 in
theorem y_answerTo (hL : LC m G P R) {s : Nat} (hs : cx G 5 s) {kd a : Int32} (hq : x_isQ P kd a = true) (hS : y_S X s) : am_W sc 19 0 [.ref (ca G 5 s), .int kd, .int a, .int (nI P)] [] (cm m G X E) (am_R1 (some (.long (x_tell X P s kd a))) (cm m G X E)) := by
  obtain ⟨j, hj, rfl, q1, q2, q3⟩ := x_isQ_k hq
  unfold x_tell
  refine am_iload_n iX5_answerTo_0 rfl rfl ?_
  rcases (show j = 0 ∨ j = 1 ∨ j = 2 ∨ j = 3 ∨ j = 4 ∨ j = 5 ∨ j = 6 ∨ j = 7 ∨ j = 8 by omega) with rfl | rfl | rfl | rfl | rfl | rfl | rfl | rfl | rfl
  · obtain ⟨b, hb, hbt, rfl⟩ := x_ix_ex (q1 (by omega))
    rw [hbt]
    refine am_tIn (q := 0) (off := 47) 48 iX5_answerTo_1 (by decide) (by decide) (by decide) (by decide) ?_
    refine am_aload_n iX5_answerTo_48 rfl rfl ?_
    refine y_getR hL (by assumption) iX5_answerTo_49 fX5_answerTo_9 rfl rfl rfl (fun _ => ?_)
    refine am_iload_n iX5_answerTo_52 rfl rfl ?_
    refine y_iald (b) hL (by assumption) iX5_answerTo_53 (by first | rfl | simp only [nI_add, pk_mul, nI_1, nL0, nL1, nL2, nL3, nL4, nL10, nL30, nL300, nL401]) (hb) rfl rfl rfl rfl ?_
    refine am_i2l iX5_answerTo_54 ?_
    exact am_lret iX5_answerTo_55 rfl (⟨rfl, rfl⟩)
  · obtain ⟨b, hb, hbt, rfl⟩ := x_ix_ex (q1 (by omega))
    rw [hbt]
    refine am_tIn (q := 0) (off := 55) 56 iX5_answerTo_1 (by decide) (by decide) (by decide) (by decide) ?_
    refine am_aload_n iX5_answerTo_56 rfl rfl ?_
    refine y_getR hL (by assumption) iX5_answerTo_57 fX5_answerTo_15 rfl rfl rfl (fun _ => ?_)
    refine am_iload_n iX5_answerTo_60 rfl rfl ?_
    refine y_iald (b) hL (by assumption) iX5_answerTo_61 (by first | rfl | simp only [nI_add, pk_mul, nI_1, nL0, nL1, nL2, nL3, nL4, nL10, nL30, nL300, nL401]) (hb) rfl rfl rfl rfl ?_
    refine am_i2l iX5_answerTo_62 ?_
    exact am_lret iX5_answerTo_63 rfl (⟨rfl, rfl⟩)
  · obtain ⟨b, hb, hbt, rfl⟩ := x_ix_ex (q1 (by omega))
    rw [hbt]
    refine am_tIn (q := 0) (off := 63) 64 iX5_answerTo_1 (by decide) (by decide) (by decide) (by decide) ?_
    refine am_aload_n iX5_answerTo_64 rfl rfl ?_
    refine y_getR hL (by assumption) iX5_answerTo_65 fX5_answerTo_18 rfl rfl rfl (fun _ => ?_)
    refine am_iload_n iX5_answerTo_68 rfl rfl ?_
    refine y_iald (b) hL (by assumption) iX5_answerTo_69 (by first | rfl | simp only [nI_add, pk_mul, nI_1, nL0, nL1, nL2, nL3, nL4, nL10, nL30, nL300, nL401]) (hb) rfl rfl rfl rfl ?_
    refine am_i2l iX5_answerTo_70 ?_
    exact am_lret iX5_answerTo_71 rfl (⟨rfl, rfl⟩)
  · obtain ⟨b, hb, hbt, rfl⟩ := x_ix_ex (q1 (by omega))
    rw [hbt]
    refine am_tIn (q := 0) (off := 71) 72 iX5_answerTo_1 (by decide) (by decide) (by decide) (by decide) ?_
    refine am_aload_n iX5_answerTo_72 rfl rfl ?_
    refine y_getR hL (by assumption) iX5_answerTo_73 fX5_answerTo_21 rfl rfl rfl (fun _ => ?_)
    refine am_iload_n iX5_answerTo_76 rfl rfl ?_
    refine y_iald (b) hL (by assumption) iX5_answerTo_77 (by first | rfl | simp only [nI_add, pk_mul, nI_1, nL0, nL1, nL2, nL3, nL4, nL10, nL30, nL300, nL401]) (hb) rfl rfl rfl rfl ?_
    refine am_i2l iX5_answerTo_78 ?_
    exact am_lret iX5_answerTo_79 rfl (⟨rfl, rfl⟩)
  · obtain ⟨b, hb, hbt, rfl⟩ := x_ix_ex (q2 (by omega))
    rw [hbt]
    refine am_tIn (q := 0) (off := 79) 80 iX5_answerTo_1 (by decide) (by decide) (by decide) (by decide) ?_
    refine am_aload_n iX5_answerTo_80 rfl rfl ?_
    refine y_getR hL (by assumption) iX5_answerTo_81 fX5_answerTo_24 rfl rfl rfl (fun _ => ?_)
    refine am_iload_n iX5_answerTo_84 rfl rfl ?_
    refine y_lald (b) hL (by assumption) iX5_answerTo_85 (by first | rfl | simp only [nI_add, pk_mul, nI_1, nL0, nL1, nL2, nL3, nL4, nL10, nL30, nL300, nL401]) (hb) ?_
    exact am_lret iX5_answerTo_86 rfl (⟨rfl, rfl⟩)
  · obtain ⟨b, hb, hbt, rfl⟩ := x_ix_ex (q2 (by omega))
    rw [hbt]
    refine am_tIn (q := 0) (off := 86) 87 iX5_answerTo_1 (by decide) (by decide) (by decide) (by decide) ?_
    refine am_aload_n iX5_answerTo_87 rfl rfl ?_
    refine am_iload_n iX5_answerTo_88 rfl rfl ?_
    refine am_cV1r iX5_answerTo_89 cX5_answerTo_76 mX5_heldBy (y_K hL (by assumption) rfl rfl) rfl rfl rfl (y_heldBy hL hs hb) ?_
    exact am_lret iX5_answerTo_92 rfl (⟨rfl, rfl⟩)
  · obtain ⟨b, hb, hbt, rfl⟩ := x_ix_ex (q2 (by omega))
    rw [hbt]
    refine am_tIn (q := 0) (off := 92) 93 iX5_answerTo_1 (by decide) (by decide) (by decide) (by decide) ?_
    refine am_aload_n iX5_answerTo_93 rfl rfl ?_
    refine y_getR hL (by assumption) iX5_answerTo_94 fX5_answerTo_28 rfl rfl rfl (fun _ => ?_)
    refine am_iload_n iX5_answerTo_97 rfl rfl ?_
    refine y_iald (b) hL (by assumption) iX5_answerTo_98 (by first | rfl | simp only [nI_add, pk_mul, nI_1, nL0, nL1, nL2, nL3, nL4, nL10, nL30, nL300, nL401]) (hb) rfl rfl rfl rfl ?_
    refine am_i2l iX5_answerTo_99 ?_
    exact am_lret iX5_answerTo_100 rfl (⟨rfl, rfl⟩)
  · obtain ⟨b, hb, hbt, rfl⟩ := x_ix_ex (q1 (by omega))
    refine am_tIn (q := 0) (off := 100) 101 iX5_answerTo_1 (by decide) (by decide) (by decide) (by decide) ?_
    refine am_aload_n iX5_answerTo_101 rfl rfl ?_
    refine am_iload_n iX5_answerTo_102 rfl rfl ?_
    refine am_cV1r iX5_answerTo_103 cX5_answerTo_80 mX5_itemRanked (y_K hL (by assumption) rfl rfl) rfl rfl rfl (y_itemRanked hL hs _) ?_
    rw [y_rnk_x hS hb]
    refine am_i2l iX5_answerTo_106 ?_
    exact am_lret iX5_answerTo_107 rfl (⟨rfl, rfl⟩)
  · refine am_tOut (q := 0) 108 iX5_answerTo_1 (by decide) (by decide) ?_
    refine am_aload_n iX5_answerTo_108 rfl rfl ?_
    refine am_iload_n iX5_answerTo_109 rfl rfl ?_
    refine am_iload_n iX5_answerTo_110 rfl rfl ?_
    refine am_cV2r iX5_answerTo_111 cX5_answerTo_84 mX5_worth (y_K hL (by assumption) rfl rfl) rfl rfl rfl (y_worth hL hs (x_rgm (q3 rfl))) ?_
    exact am_lret iX5_answerTo_114 rfl (⟨rfl, rfl⟩)
/-! rows copied -/
theorem cvI_an {t n j : Nat} (h0 : 0 < la t) (h : ¬ j < la t) : cvI t n j = none := by
  unfold la at h0
  split at h0
  all_goals first | exact if_neg h | omega
def xrf {α : Type} (F : Nat → Nat → α) (o c f t : Nat) : Nat → Nat → α := fun p i => if p = o ∧ c * t ≤ i ∧ i < c * t + c then F o (c * f + (i - c * t)) else F p i
def xrc (X : ms_X) (o c f t : Nat) : ms_X := (xrf X.1 o c f t, X.2)
def xrd (X : ms_X) (o c f t : Nat) : ms_X := (X.1, xrf X.2 o c f t)
theorem y_rowI (hL : LC m G P R) {tag o c f t : Nat} (hf : cx G tag f) (ht : cx G tag t) (hla : la tag = c) (h0 : 0 < c) (ho : o < 35) (hcv : ∀ n j, cva tag n j = (o, c * n + j)) :
    am_rowI (cm m G X E) (ca G tag t) (va_cpy (am_I (cm m G X E) (ca G tag f)) (am_I (cm m G X E) (ca G tag t)) 0 0 c) = cm m G (xrc X o c f t) E := by
  subst hla
  have hv : ∀ n j, j < la tag → cvI tag n j = some (o, la tag * n + j) := fun n j hj => (cvI_a hj).trans (congrArg some (hcv n j))
  have ef : G.1 (ca G tag f) = (tag, f) := hf
  have et : G.1 (ca G tag t) = (tag, t) := ht
  show (m.1, m.2.1, m.2.2.1, am_row (c_ov G.1 cvI (yI X E) m.2.2.2.1) (ca G tag t) _, c_ov G.1 cvJ (yJ X E) m.2.2.2.2.1, m.2.2.2.2.2) = _
  have key : am_row (c_ov G.1 cvI (yI X E) m.2.2.2.1) (ca G tag t) (va_cpy (am_I (cm m G X E) (ca G tag f)) (am_I (cm m G X E) (ca G tag t)) 0 0 (la tag)) = c_ov G.1 cvI (yI (xrc X o (la tag) f t) E) m.2.2.2.1 := by
    funext a j
    unfold am_row
    by_cases ea : a = ca G tag t
    · subst ea
      rw [if_pos rfl]
      unfold va_cpy
      by_cases hj : j < la tag
      · have h1 : cvI (G.1 (ca G tag t)).1 (G.1 (ca G tag t)).2 j = some (o, la tag * t + j) := by rw [et]; exact hv t j hj
        have h2 : cvI (co G (ca G tag f)).1 (co G (ca G tag f)).2 j = some (o, la tag * f + j) := by rw [show co G (ca G tag f) = (tag, f) from hf]; exact hv f j hj
        rw [if_pos ⟨by omega, by omega⟩, c_ov_s h1, show 0 + (j - 0) = j by omega, cm_I ho h2]
        unfold yI
        rw [if_pos ho]
        show _ = (if o = o ∧ la tag * t ≤ la tag * t + j ∧ la tag * t + j < la tag * t + la tag then X.1 o (la tag * f + (la tag * t + j - la tag * t)) else X.1 o (la tag * t + j))
        rw [if_pos ⟨rfl, by omega, by omega⟩, show la tag * t + j - la tag * t = j by omega]
      · have h1 : cvI (G.1 (ca G tag t)).1 (G.1 (ca G tag t)).2 j = none := by rw [et]; exact cvI_an h0 hj
        rw [if_neg (by omega), c_ov_n h1]
        exact c_ov_n h1
    · rw [if_neg ea]
      cases hb : cvI (G.1 a).1 (G.1 a).2 j with
      | none => rw [c_ov_n hb, c_ov_n hb]
      | some p =>
        rw [c_ov_s hb, c_ov_s hb]
        unfold yI
        split
        · show X.1 p.1 p.2 = (if p.1 = o ∧ la tag * t ≤ p.2 ∧ p.2 < la tag * t + la tag then X.1 o (la tag * f + (p.2 - la tag * t)) else X.1 p.1 p.2)
          rw [if_neg]
          rintro ⟨q1, q2, q3⟩
          have h3 : cvI tag t (p.2 - la tag * t) = some p := by
            rw [hv t _ (by omega)]
            exact congrArg some (Prod.ext q1.symm (by show la tag * t + (p.2 - la tag * t) = p.2; omega))
          have e1 := (cvI_inv hb).symm.trans (cvI_inv h3)
          have e2 : (G.1 a).1 = tag := congrArg (fun z => z.1) e1
          have e3 : (G.1 a).2 = t := congrArg (fun z => z.2.1) e1
          refine ea ?_
          have e4 := (hL.1 a (fun q0 => by
            have q0 : (G.1 a).1 = 0 := q0
            rw [q0, cvI_0] at hb
            cases hb)).1
          rw [← e4]
          show ca G (G.1 a).1 (G.1 a).2 = _
          rw [e2, e3]
        · rfl
  rw [key]
  rfl
theorem y_rowJ (hL : LC m G P R) {f t : Nat} (hf : cx G 10 f) (ht : cx G 10 t) :
    am_rowJ (cm m G X E) (ca G 10 t) (va_cpy (am_J (cm m G X E) (ca G 10 f)) (am_J (cm m G X E) (ca G 10 t)) 0 0 10) = cm m G (xrd X 13 10 f t) E := by
  have hv : ∀ n j, j < 10 → cvJ 10 n j = some (13, 10 * n + j) := fun n j hj => if_pos hj
  have ef : G.1 (ca G 10 f) = (10, f) := hf
  have et : G.1 (ca G 10 t) = (10, t) := ht
  show (m.1, m.2.1, m.2.2.1, c_ov G.1 cvI (yI X E) m.2.2.2.1, am_row (c_ov G.1 cvJ (yJ X E) m.2.2.2.2.1) (ca G 10 t) _, m.2.2.2.2.2) = _
  have key : am_row (c_ov G.1 cvJ (yJ X E) m.2.2.2.2.1) (ca G 10 t) (va_cpy (am_J (cm m G X E) (ca G 10 f)) (am_J (cm m G X E) (ca G 10 t)) 0 0 10) = c_ov G.1 cvJ (yJ (xrd X 13 10 f t) E) m.2.2.2.2.1 := by
    funext a j
    unfold am_row
    by_cases ea : a = ca G 10 t
    · subst ea
      rw [if_pos rfl]
      unfold va_cpy
      by_cases hj : j < 10
      · have h1 : cvJ (G.1 (ca G 10 t)).1 (G.1 (ca G 10 t)).2 j = some (13, 10 * t + j) := by rw [et]; exact hv t j hj
        have h2 : cvJ (co G (ca G 10 f)).1 (co G (ca G 10 f)).2 j = some (13, 10 * f + j) := by rw [show co G (ca G 10 f) = (10, f) from hf]; exact hv f j hj
        rw [if_pos ⟨by omega, by omega⟩, c_ov_s h1, show 0 + (j - 0) = j by omega, cm_J (by decide) h2]
        show _ = (if 13 = 13 ∧ 10 * t ≤ 10 * t + j ∧ 10 * t + j < 10 * t + 10 then X.2 13 (10 * f + (10 * t + j - 10 * t)) else X.2 13 (10 * t + j))
        rw [if_pos ⟨rfl, by omega, by omega⟩, show 10 * t + j - 10 * t = j by omega]
      · have h1 : cvJ (G.1 (ca G 10 t)).1 (G.1 (ca G 10 t)).2 j = none := by rw [et]; exact if_neg hj
        rw [if_neg (by omega), c_ov_n h1]
        exact c_ov_n h1
    · rw [if_neg ea]
      cases hb : cvJ (G.1 a).1 (G.1 a).2 j with
      | none => rw [c_ov_n hb, c_ov_n hb]
      | some p =>
        rw [c_ov_s hb, c_ov_s hb]
        unfold yJ
        split
        · show X.2 p.1 p.2 = (if p.1 = 13 ∧ 10 * t ≤ p.2 ∧ p.2 < 10 * t + 10 then X.2 13 (10 * f + (p.2 - 10 * t)) else X.2 p.1 p.2)
          rw [if_neg]
          rintro ⟨q1, q2, q3⟩
          have h3 : cvJ 10 t (p.2 - 10 * t) = some p := by
            rw [hv t _ (by omega)]
            exact congrArg some (Prod.ext q1.symm (by show 10 * t + (p.2 - 10 * t) = p.2; omega))
          have e1 := (cvJ_inv hb).symm.trans (cvJ_inv h3)
          have e2 : (G.1 a).1 = 10 := congrArg (fun z => z.1) e1
          have e3 : (G.1 a).2 = t := congrArg (fun z => z.2.1) e1
          refine ea ?_
          have e4 := (hL.1 a (fun q0 => by
            have q0 : (G.1 a).1 = 0 := q0
            rw [q0, cvJ_0] at hb
            cases hb)).1
          rw [← e4]
          show ca G (G.1 a).1 (G.1 a).2 = _
          rw [e2, e3]
        · rfl
  rw [key]
  rfl
theorem xrf_cpf {α : Type} (F : Nat → Nat → α) {o c f t : Nat} {cnt cnt' : Nat → Nat} (hft : f ≠ t) (hn : x_ch o = c) (h0 : cnt o = 0) (h1 : cnt' o = c) (h2 : ∀ p, p ≠ o → cnt' p = cnt p) : xrf (x_cpf F f t cnt) o c f t = x_cpf F f t cnt' := by
  subst hn
  funext p i
  unfold xrf
  by_cases e : p = o
  · subst e
    unfold x_cpf
    rw [h0, h1]
    by_cases h : x_ch p * t ≤ i ∧ i < x_ch p * t + x_ch p
    · rw [if_pos ⟨rfl, h⟩, if_pos h, if_neg]
      omega
    · rw [if_neg (fun q => h q.2), if_neg h, if_neg (by omega)]
  · rw [if_neg (fun q => e q.1)]
    unfold x_cpf
    rw [h2 p e]
theorem xrc_cp {f t a b c d e g h i a' b' c' d' e' h' i' : Nat} (hft : f ≠ t) (o n : Nat) (hn : x_ch o = n) (h0 : x_c1 a b c d e g h i o = 0) (h1 : x_c1 a' b' c' d' e' g h' i' o = n) (h2 : ∀ p, p ≠ o → x_c1 a' b' c' d' e' g h' i' p = x_c1 a b c d e g h i p) :
    xrc (x_cp X f t a b c d e g h i) o n f t = x_cp X f t a' b' c' d' e' g h' i' := Prod.ext (xrf_cpf X.1 hft hn h0 h1 h2) rfl
theorem xrd_cp {f t a b c d e h i g' : Nat} (hft : f ≠ t) (h0 : x_c2 a b c d e 0 h i 13 = 0) (h1 : x_c2 a b c d e g' h i 13 = 10) (h2 : ∀ p, p ≠ 13 → x_c2 a b c d e g' h i p = x_c2 a b c d e 0 h i p) :
    xrd (x_cp X f t a b c d e 0 h i) 13 10 f t = x_cp X f t a b c d e g' h i := Prod.ext rfl (xrf_cpf X.2 hft rfl h0 h1 h2)
set_option maxHeartbeats 1000000 in
theorem y_becomeLike (hL : LC m G P R) {f t : Nat} (hf : cx G 5 f) (ht : cx G 5 t) (hft : f ≠ t) : am_W sc 13 0 [.ref (ca G 5 t), .ref (ca G 5 f)] [] (cm m G X E) (am_R1 none (cm m G (x_cp X f t 30 30 30 30 300 10 10 0) E)) := by
  have st : x_cp X f t 0 0 0 0 0 0 0 0 = X := x_cp_0 X f t
  suffices hh : am_W sc 13 0 [.ref (ca G 5 t), .ref (ca G 5 f)] [] (cm m G (x_cp X f t 0 0 0 0 0 0 0 0) E) (am_R1 none (cm m G (x_cp X f t 30 30 30 30 300 10 10 0) E)) by
    rw [st] at hh
    exact hh
  refine am_aload_n iX5_becomeLike_0 rfl rfl ?_
  refine y_getR hL (by assumption) iX5_becomeLike_1 fX5_becomeLike_9 rfl rfl rfl (fun _ => ?_)
  refine am_iconst (i := 0) (v := 0) rfl iX5_becomeLike_4 ?_
  refine am_aload_n iX5_becomeLike_5 rfl rfl ?_
  refine y_getR hL (by assumption) iX5_becomeLike_6 fX5_becomeLike_9 rfl rfl rfl (fun _ => ?_)
  refine am_iconst (i := 0) (v := 0) rfl iX5_becomeLike_9 ?_
  refine am_bipush (i := 30) (v := 30) rfl iX5_becomeLike_10 ?_
  refine am_copyI iX5_becomeLike_12 wd_511 wd_513 wd_512 wd_15 (y_K hL (by assumption) rfl rfl) (y_K hL (by assumption) rfl rfl) (by decide) (by decide) (by decide) (by rw [y_L hL (by assumption) rfl]; exact Nat.le_refl _) (by rw [y_L hL (by assumption) rfl]; exact Nat.le_refl _) (Nat.le_of_ble_eq_true rfl) (Nat.le_of_ble_eq_true rfl) ?_
  show am_W _ _ _ _ _ (am_rowI (cm m G (x_cp X f t 0 0 0 0 0 0 0 0) E) (ca G 6 t) (va_cpy (am_I (cm m G (x_cp X f t 0 0 0 0 0 0 0 0) E) (ca G 6 f)) (am_I (cm m G (x_cp X f t 0 0 0 0 0 0 0 0) E) (ca G 6 t)) 0 0 30)) _
  rw [y_rowI (o := 8) (c := 30) hL (by assumption) (by assumption) rfl (by decide) (by decide) (fun _ _ => rfl), xrc_cp hft 8 30 rfl rfl (a' := 30) (b' := 0) (c' := 0) (d' := 0) (e' := 0) (h' := 0) (i' := 0) rfl (x_ne1 (fun q hq => ⟨fun z => absurd z hq, fun _ => rfl, fun _ => rfl, fun _ => rfl, fun _ => rfl, fun _ => rfl, fun _ => rfl⟩))]
  refine am_aload_n iX5_becomeLike_15 rfl rfl ?_
  refine y_getR hL (by assumption) iX5_becomeLike_16 fX5_becomeLike_15 rfl rfl rfl (fun _ => ?_)
  refine am_iconst (i := 0) (v := 0) rfl iX5_becomeLike_19 ?_
  refine am_aload_n iX5_becomeLike_20 rfl rfl ?_
  refine y_getR hL (by assumption) iX5_becomeLike_21 fX5_becomeLike_15 rfl rfl rfl (fun _ => ?_)
  refine am_iconst (i := 0) (v := 0) rfl iX5_becomeLike_24 ?_
  refine am_bipush (i := 30) (v := 30) rfl iX5_becomeLike_25 ?_
  refine am_copyI iX5_becomeLike_27 wd_511 wd_513 wd_512 wd_15 (y_K hL (by assumption) rfl rfl) (y_K hL (by assumption) rfl rfl) (by decide) (by decide) (by decide) (by rw [y_L hL (by assumption) rfl]; exact Nat.le_refl _) (by rw [y_L hL (by assumption) rfl]; exact Nat.le_refl _) (Nat.le_of_ble_eq_true rfl) (Nat.le_of_ble_eq_true rfl) ?_
  show am_W _ _ _ _ _ (am_rowI (cm m G (x_cp X f t 30 0 0 0 0 0 0 0) E) (ca G 7 t) (va_cpy (am_I (cm m G (x_cp X f t 30 0 0 0 0 0 0 0) E) (ca G 7 f)) (am_I (cm m G (x_cp X f t 30 0 0 0 0 0 0 0) E) (ca G 7 t)) 0 0 30)) _
  rw [y_rowI (o := 9) (c := 30) hL (by assumption) (by assumption) rfl (by decide) (by decide) (fun _ _ => rfl), xrc_cp hft 9 30 rfl rfl (a' := 30) (b' := 30) (c' := 0) (d' := 0) (e' := 0) (h' := 0) (i' := 0) rfl (x_ne1 (fun q hq => ⟨fun _ => rfl, fun z => absurd z hq, fun _ => rfl, fun _ => rfl, fun _ => rfl, fun _ => rfl, fun _ => rfl⟩))]
  refine am_aload_n iX5_becomeLike_30 rfl rfl ?_
  refine y_getR hL (by assumption) iX5_becomeLike_31 fX5_becomeLike_18 rfl rfl rfl (fun _ => ?_)
  refine am_iconst (i := 0) (v := 0) rfl iX5_becomeLike_34 ?_
  refine am_aload_n iX5_becomeLike_35 rfl rfl ?_
  refine y_getR hL (by assumption) iX5_becomeLike_36 fX5_becomeLike_18 rfl rfl rfl (fun _ => ?_)
  refine am_iconst (i := 0) (v := 0) rfl iX5_becomeLike_39 ?_
  refine am_bipush (i := 30) (v := 30) rfl iX5_becomeLike_40 ?_
  refine am_copyI iX5_becomeLike_42 wd_511 wd_513 wd_512 wd_15 (y_K hL (by assumption) rfl rfl) (y_K hL (by assumption) rfl rfl) (by decide) (by decide) (by decide) (by rw [y_L hL (by assumption) rfl]; exact Nat.le_refl _) (by rw [y_L hL (by assumption) rfl]; exact Nat.le_refl _) (Nat.le_of_ble_eq_true rfl) (Nat.le_of_ble_eq_true rfl) ?_
  show am_W _ _ _ _ _ (am_rowI (cm m G (x_cp X f t 30 30 0 0 0 0 0 0) E) (ca G 8 t) (va_cpy (am_I (cm m G (x_cp X f t 30 30 0 0 0 0 0 0) E) (ca G 8 f)) (am_I (cm m G (x_cp X f t 30 30 0 0 0 0 0 0) E) (ca G 8 t)) 0 0 30)) _
  rw [y_rowI (o := 10) (c := 30) hL (by assumption) (by assumption) rfl (by decide) (by decide) (fun _ _ => rfl), xrc_cp hft 10 30 rfl rfl (a' := 30) (b' := 30) (c' := 30) (d' := 0) (e' := 0) (h' := 0) (i' := 0) rfl (x_ne1 (fun q hq => ⟨fun _ => rfl, fun _ => rfl, fun z => absurd z hq, fun _ => rfl, fun _ => rfl, fun _ => rfl, fun _ => rfl⟩))]
  refine am_aload_n iX5_becomeLike_45 rfl rfl ?_
  refine y_getR hL (by assumption) iX5_becomeLike_46 fX5_becomeLike_21 rfl rfl rfl (fun _ => ?_)
  refine am_iconst (i := 0) (v := 0) rfl iX5_becomeLike_49 ?_
  refine am_aload_n iX5_becomeLike_50 rfl rfl ?_
  refine y_getR hL (by assumption) iX5_becomeLike_51 fX5_becomeLike_21 rfl rfl rfl (fun _ => ?_)
  refine am_iconst (i := 0) (v := 0) rfl iX5_becomeLike_54 ?_
  refine am_bipush (i := 30) (v := 30) rfl iX5_becomeLike_55 ?_
  refine am_copyI iX5_becomeLike_57 wd_511 wd_513 wd_512 wd_15 (y_K hL (by assumption) rfl rfl) (y_K hL (by assumption) rfl rfl) (by decide) (by decide) (by decide) (by rw [y_L hL (by assumption) rfl]; exact Nat.le_refl _) (by rw [y_L hL (by assumption) rfl]; exact Nat.le_refl _) (Nat.le_of_ble_eq_true rfl) (Nat.le_of_ble_eq_true rfl) ?_
  show am_W _ _ _ _ _ (am_rowI (cm m G (x_cp X f t 30 30 30 0 0 0 0 0) E) (ca G 9 t) (va_cpy (am_I (cm m G (x_cp X f t 30 30 30 0 0 0 0 0) E) (ca G 9 f)) (am_I (cm m G (x_cp X f t 30 30 30 0 0 0 0 0) E) (ca G 9 t)) 0 0 30)) _
  rw [y_rowI (o := 11) (c := 30) hL (by assumption) (by assumption) rfl (by decide) (by decide) (fun _ _ => rfl), xrc_cp hft 11 30 rfl rfl (a' := 30) (b' := 30) (c' := 30) (d' := 30) (e' := 0) (h' := 0) (i' := 0) rfl (x_ne1 (fun q hq => ⟨fun _ => rfl, fun _ => rfl, fun _ => rfl, fun z => absurd z hq, fun _ => rfl, fun _ => rfl, fun _ => rfl⟩))]
  refine am_aload_n iX5_becomeLike_60 rfl rfl ?_
  refine y_getR hL (by assumption) iX5_becomeLike_61 fX5_becomeLike_24 rfl rfl rfl (fun _ => ?_)
  refine am_iconst (i := 0) (v := 0) rfl iX5_becomeLike_64 ?_
  refine am_aload_n iX5_becomeLike_65 rfl rfl ?_
  refine y_getR hL (by assumption) iX5_becomeLike_66 fX5_becomeLike_24 rfl rfl rfl (fun _ => ?_)
  refine am_iconst (i := 0) (v := 0) rfl iX5_becomeLike_69 ?_
  refine am_bipush (i := 10) (v := 10) rfl iX5_becomeLike_70 ?_
  refine am_copyJ iX5_becomeLike_72 wd_511 wd_513 wd_512 wd_15 (y_K hL (by assumption) rfl rfl) (y_K hL (by assumption) rfl rfl) (by decide) (by decide) (by decide) (by rw [y_L hL (by assumption) rfl]; exact Nat.le_refl _) (by rw [y_L hL (by assumption) rfl]; exact Nat.le_refl _) (Nat.le_of_ble_eq_true rfl) (Nat.le_of_ble_eq_true rfl) ?_
  show am_W _ _ _ _ _ (am_rowJ (cm m G (x_cp X f t 30 30 30 30 0 0 0 0) E) (ca G 10 t) (va_cpy (am_J (cm m G (x_cp X f t 30 30 30 30 0 0 0 0) E) (ca G 10 f)) (am_J (cm m G (x_cp X f t 30 30 30 30 0 0 0 0) E) (ca G 10 t)) 0 0 10)) _
  rw [y_rowJ hL (by assumption) (by assumption), xrd_cp hft (g' := 10) rfl rfl (fun q hq => by unfold x_c2 x_c4; repeat' split; all_goals first | rfl | exact absurd ‹_› hq)]
  refine am_aload_n iX5_becomeLike_75 rfl rfl ?_
  refine y_getR hL (by assumption) iX5_becomeLike_76 fX5_becomeLike_28 rfl rfl rfl (fun _ => ?_)
  refine am_iconst (i := 0) (v := 0) rfl iX5_becomeLike_79 ?_
  refine am_aload_n iX5_becomeLike_80 rfl rfl ?_
  refine y_getR hL (by assumption) iX5_becomeLike_81 fX5_becomeLike_28 rfl rfl rfl (fun _ => ?_)
  refine am_iconst (i := 0) (v := 0) rfl iX5_becomeLike_84 ?_
  refine am_bipush (i := 10) (v := 10) rfl iX5_becomeLike_85 ?_
  refine am_copyI iX5_becomeLike_87 wd_511 wd_513 wd_512 wd_15 (y_K hL (by assumption) rfl rfl) (y_K hL (by assumption) rfl rfl) (by decide) (by decide) (by decide) (by rw [y_L hL (by assumption) rfl]; exact Nat.le_refl _) (by rw [y_L hL (by assumption) rfl]; exact Nat.le_refl _) (Nat.le_of_ble_eq_true rfl) (Nat.le_of_ble_eq_true rfl) ?_
  show am_W _ _ _ _ _ (am_rowI (cm m G (x_cp X f t 30 30 30 30 0 10 0 0) E) (ca G 11 t) (va_cpy (am_I (cm m G (x_cp X f t 30 30 30 30 0 10 0 0) E) (ca G 11 f)) (am_I (cm m G (x_cp X f t 30 30 30 30 0 10 0 0) E) (ca G 11 t)) 0 0 10)) _
  rw [y_rowI (o := 14) (c := 10) hL (by assumption) (by assumption) rfl (by decide) (by decide) (fun _ _ => rfl), xrc_cp hft 14 10 rfl rfl (a' := 30) (b' := 30) (c' := 30) (d' := 30) (e' := 0) (h' := 10) (i' := 0) rfl (x_ne1 (fun q hq => ⟨fun _ => rfl, fun _ => rfl, fun _ => rfl, fun _ => rfl, fun _ => rfl, fun z => absurd z hq, fun _ => rfl⟩))]
  refine am_aload_n iX5_becomeLike_90 rfl rfl ?_
  refine y_getR hL (by assumption) iX5_becomeLike_91 fX5_becomeLike_31 rfl rfl rfl (fun _ => ?_)
  refine am_iconst (i := 0) (v := 0) rfl iX5_becomeLike_94 ?_
  refine am_aload_n iX5_becomeLike_95 rfl rfl ?_
  refine y_getR hL (by assumption) iX5_becomeLike_96 fX5_becomeLike_31 rfl rfl rfl (fun _ => ?_)
  refine am_iconst (i := 0) (v := 0) rfl iX5_becomeLike_99 ?_
  refine am_sipush (i := 300) (v := 300) rfl iX5_becomeLike_100 ?_
  refine am_copyI iX5_becomeLike_103 wd_511 wd_513 wd_512 wd_15 (y_K hL (by assumption) rfl rfl) (y_K hL (by assumption) rfl rfl) (by decide) (by decide) (by decide) (by rw [y_L hL (by assumption) rfl]; exact Nat.le_refl _) (by rw [y_L hL (by assumption) rfl]; exact Nat.le_refl _) (Nat.le_of_ble_eq_true rfl) (Nat.le_of_ble_eq_true rfl) ?_
  show am_W _ _ _ _ _ (am_rowI (cm m G (x_cp X f t 30 30 30 30 0 10 10 0) E) (ca G 12 t) (va_cpy (am_I (cm m G (x_cp X f t 30 30 30 30 0 10 10 0) E) (ca G 12 f)) (am_I (cm m G (x_cp X f t 30 30 30 30 0 10 10 0) E) (ca G 12 t)) 0 0 300)) _
  rw [y_rowI (o := 12) (c := 300) hL (by assumption) (by assumption) rfl (by decide) (by decide) (fun _ _ => rfl), xrc_cp hft 12 300 rfl rfl (a' := 30) (b' := 30) (c' := 30) (d' := 30) (e' := 300) (h' := 10) (i' := 0) rfl (x_ne1 (fun q hq => ⟨fun _ => rfl, fun _ => rfl, fun _ => rfl, fun _ => rfl, fun z => absurd z hq, fun _ => rfl, fun _ => rfl⟩))]
  exact am_vret iX5_becomeLike_106 rfl (⟨rfl, rfl⟩)
end
