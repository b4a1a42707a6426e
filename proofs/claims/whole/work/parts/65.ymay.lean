/-! the class: who may answer; answers -/
theorem mx_le {x y z : Int32} : (if x < y then y else x) ≤ z ↔ x ≤ z ∧ y ≤ z := by
  by_cases h : x < y
  · rw [if_pos h]
    rw [Int32.lt_iff_toInt_lt] at h
    rw [Int32.le_iff_toInt_le, Int32.le_iff_toInt_le]
    omega
  · rw [if_neg h]
    rw [Int32.lt_iff_toInt_lt] at h
    rw [Int32.le_iff_toInt_le, Int32.le_iff_toInt_le]
    omega
theorem xU_id (X : ms_X) {o i : Nat} {v : Int32} (h : v = X.1 o i) : xU X o i v = X := by
  subst h
  refine Prod.ext ?_ rfl
  funext a j
  show (if a = o ∧ j = i then X.1 o i else X.1 a j) = X.1 a j
  split
  · rename_i q; rw [q.1, q.2]
  · rfl
section
variable {sc : Nat × (Nat → Int32)} {m : am_Mem} {G : cg_G} {X E : ms_X} {P R : Nat}
def y_m1 (b x y : Int32) : Int32 := if b = 0 then x else if x < y then y else x
def y_lst (X E : ms_X) (k s p : Nat) : Int32 :=
  let c := y_m1 (X.1 19 s &&& 2) (y_m1 (X.1 19 s &&& 1) (x_pos (E.2 1 k) (nI p)) (X.1 21 (3 * s + p))) (X.1 22 (3 * s + p))
  if X.1 26 k = -1 then c else if c < X.1 1 p - X.1 26 k then X.1 1 p - X.1 26 k else c
set_option maxHeartbeats 1000000 in
theorem y_leastFor (hL : LC m G P R) {k s p : Nat} (hk : cx G 17 k) (hs : s < 8) (h24 : X.1 24 k = nI s) (hp : p < P) : am_W sc 59 0 [.ref (ca G 1 0), .ref (ca G 17 k), .int (nI p), .retAddr 1, .retAddr 1] [] (cm m G X E) (am_R1 (some (.int (y_lst X E k s p))) (cm m G X E)) := by
  have h1 := hL.2.1
  have hP := hL.2.2.2
  have hp3 : p < 3 := by omega
  unfold y_lst
  have t3 : ∀ c : Int32, ∀ w : Value, cx G 14 s → c = y_m1 (X.1 19 s &&& 2) (y_m1 (X.1 19 s &&& 1) (x_pos (E.2 1 k) (nI p)) (X.1 21 (3 * s + p))) (X.1 22 (3 * s + p)) → am_W sc 59 64 [.ref (ca G 1 0), .ref (ca G 17 k), .int (nI p), .ref (ca G 14 s), .int c] [] (cm m G X E) (am_R1 (some (.int (y_lst X E k s p))) (cm m G X E)) := by
    intro c w hses hcc
    unfold y_lst
    rw [← hcc]
    refine am_aload_n iX6_leastFor_64 rfl rfl ?_
    refine y_getI (o := 26) hL (by assumption) iX6_leastFor_65 fX6_leastFor_298 rfl rfl rfl rfl ?_
    refine am_iconst (i := -1) (v := -1) rfl iX6_leastFor_68 ?_
    refine am_icmp_eq iX6_leastFor_69 (fun h2 => ?_) (fun h2 => ?_)
    · rw [if_pos h2]
      refine am_iload iX6_leastFor_93 rfl ?_
      exact am_iret iX6_leastFor_95 rfl (⟨rfl, rfl⟩)
    · rw [if_neg h2]
      refine am_iload iX6_leastFor_72 rfl ?_
      refine am_aload_n iX6_leastFor_74 rfl rfl ?_
      refine y_getR hL (by assumption) iX6_leastFor_75 fX6_leastFor_11 rfl rfl rfl (fun _ => ?_)
      refine am_iload_n iX6_leastFor_78 rfl rfl ?_
      refine y_logs (p) hL (by assumption) iX6_leastFor_79 (by first | rfl | simp only [nI_add, pk_mul, nI_1, nL0, nL1, nL2, nL3, nL4, nL10, nL30, nL300, nL401]) (hp) (fun _ => ?_)
      refine y_getI (o := 1) hL (by assumption) iX6_leastFor_80 fX6_leastFor_62 rfl rfl rfl rfl ?_
      refine am_aload_n iX6_leastFor_83 rfl rfl ?_
      refine y_getI (o := 26) hL (by assumption) iX6_leastFor_84 fX6_leastFor_298 rfl rfl rfl rfl ?_
      refine am_isub iX6_leastFor_87 ?_
      refine am_mmax iX6_leastFor_88 wd_297 wd_298 wd_12 g_mx3 (Nat.le_of_ble_eq_true rfl) (Nat.le_of_ble_eq_true rfl) ?_
      refine am_istore_4 iX6_leastFor_91 rfl rfl ?_
      refine am_iload iX6_leastFor_93 rfl ?_
      exact am_iret iX6_leastFor_95 rfl (⟨rfl, rfl⟩)
  have t2 : ∀ c : Int32, ∀ w : Value, cx G 14 s → c = y_m1 (X.1 19 s &&& 1) (x_pos (E.2 1 k) (nI p)) (X.1 21 (3 * s + p)) → am_W sc 59 42 [.ref (ca G 1 0), .ref (ca G 17 k), .int (nI p), .ref (ca G 14 s), .int c] [] (cm m G X E) (am_R1 (some (.int (y_lst X E k s p))) (cm m G X E)) := by
    intro c w hses hcc
    refine am_aload_n iX6_leastFor_42 rfl rfl ?_
    refine y_getI (o := 19) hL (by assumption) iX6_leastFor_43 fX6_leastFor_47 rfl rfl rfl rfl ?_
    refine am_iconst (i := 2) (v := 2) rfl iX6_leastFor_46 ?_
    refine am_iand iX6_leastFor_47 ?_
    refine am_if_eq iX6_leastFor_48 (fun h2 => ?_) (fun h2 => ?_)
    · exact t3 c w hses (by unfold y_m1 at hcc ⊢; rw [if_pos h2]; exact hcc)
    · refine am_iload iX6_leastFor_51 rfl ?_
      refine am_aload_n iX6_leastFor_53 rfl rfl ?_
      refine y_getR hL (by assumption) iX6_leastFor_54 fX6_leastFor_227 rfl rfl rfl (fun _ => ?_)
      refine am_iload_n iX6_leastFor_57 rfl rfl ?_
      refine y_iald (p) hL (by assumption) iX6_leastFor_58 (by first | rfl | simp only [nI_add, pk_mul, nI_1, nL0, nL1, nL2, nL3, nL4, nL10, nL30, nL300, nL401]) (hp3) rfl rfl rfl rfl ?_
      refine am_mmax iX6_leastFor_59 wd_297 wd_298 wd_12 g_mx3 (Nat.le_of_ble_eq_true rfl) (Nat.le_of_ble_eq_true rfl) ?_
      refine am_istore_4 iX6_leastFor_62 rfl rfl ?_
      exact t3 _ w hses (by rw [hcc]; exact (show y_m1 (X.1 19 s &&& 2) (y_m1 (X.1 19 s &&& 1) (x_pos (E.2 1 k) (nI p)) (X.1 21 (3 * s + p))) (X.1 22 (3 * s + p)) = _ from if_neg h2).symm)
  refine am_aload_n iX6_leastFor_0 rfl rfl ?_
  refine y_getR hL (by assumption) iX6_leastFor_1 fX6_leastFor_25 rfl rfl rfl (fun _ => ?_)
  refine am_aload_n iX6_leastFor_4 rfl rfl ?_
  refine y_getI (o := 24) hL (by assumption) iX6_leastFor_5 fX6_leastFor_186 rfl rfl rfl rfl ?_
  rw [h24]
  refine y_sess (s) hL (by assumption) iX6_leastFor_8 (by first | rfl | simp only [nI_add, pk_mul, nI_1, nL0, nL1, nL2, nL3, nL4, nL10, nL30, nL300, nL401]) (hs) (fun _ => ?_)
  refine am_astore_n_3 iX6_leastFor_9 rfl rfl ?_
  refine am_aload_n iX6_leastFor_10 rfl rfl ?_
  refine y_getF (o := 1) hL (by assumption) iX6_leastFor_11 fX6_leastFor_295 rfl rfl rfl ?_
  refine am_iload_n iX6_leastFor_14 rfl rfl ?_
  refine am_cS2r iX6_leastFor_15 cX6_leastFor_230 mX6_positionIn rfl rfl rfl (y_positionIn _ hp3) ?_
  refine am_istore_4 iX6_leastFor_18 rfl rfl ?_
  refine am_aload_n iX6_leastFor_20 rfl rfl ?_
  refine y_getI (o := 19) hL (by assumption) iX6_leastFor_21 fX6_leastFor_47 rfl rfl rfl rfl ?_
  refine am_iconst (i := 1) (v := 1) rfl iX6_leastFor_24 ?_
  refine am_iand iX6_leastFor_25 ?_
  refine am_if_eq iX6_leastFor_26 (fun h2 => ?_) (fun h2 => ?_)
  · exact t2 _ (.retAddr 1) ‹_› (by unfold y_m1; rw [if_pos h2])
  · refine am_iload iX6_leastFor_29 rfl ?_
    refine am_aload_n iX6_leastFor_31 rfl rfl ?_
    refine y_getR hL (by assumption) iX6_leastFor_32 fX6_leastFor_85 rfl rfl rfl (fun _ => ?_)
    refine am_iload_n iX6_leastFor_35 rfl rfl ?_
    refine y_iald (p) hL (by assumption) iX6_leastFor_36 (by first | rfl | simp only [nI_add, pk_mul, nI_1, nL0, nL1, nL2, nL3, nL4, nL10, nL30, nL300, nL401]) (hp3) rfl rfl rfl rfl ?_
    refine am_mmax iX6_leastFor_37 wd_297 wd_298 wd_12 g_mx3 (Nat.le_of_ble_eq_true rfl) (Nat.le_of_ble_eq_true rfl) ?_
    refine am_istore_4 iX6_leastFor_40 rfl rfl ?_
    exact t2 _ (.retAddr 1) ‹_› (by unfold y_m1; rw [if_neg h2])
/-- the read k is as the reference holds it -/
def y_rd (X E : ms_X) (k s P : Nat) : Prop := s < 8 ∧ X.1 24 k = nI s ∧ (∀ q, q < 3 → X.1 25 (3 * k + q) = x_pos (E.2 1 k) (nI q)) ∧ x_rg (X.1 26 k) (-1) 400 = true ∧ x_isQ P (X.1 29 k) (X.1 30 k) = true
def y_mayN (X E : ms_X) (r k s : Nat) : Nat → Bool
  | 0 => true
  | n + 1 => y_mayN X E r k s n && decide (y_lst X E k s n ≤ X.1 15 (3 * r + n))
theorem x_rg_nn {v : Int32} {n : Nat} (h : x_ix v n) (hn : n ≤ 1000) : 0 ≤ v.toInt ∧ v.toInt < n := by
  obtain ⟨j, hj, -, rfl⟩ := x_ix_ex h
  rw [nI_toInt (by omega)]
  omega
theorem y_may_x {r k s : Nat} (hd : y_rd X E k s P) (hu : ¬ X.1 18 r = 0) (hE : ∀ p, p < P → x_ix (X.1 1 p) 401 ∧ x_ix (X.1 15 (3 * r + p)) 401) (hP3 : P ≤ 3) : y_mayN X E r k s P = x_may X P r k := by
  obtain ⟨hs, h24, h25, h26, -⟩ := hd
  unfold x_may x_may0
  rw [h24, nt_nI (by omega), decide_eq_false hu]
  have key : ∀ n, n ≤ P → y_mayN X E r k s n = ((x_cov X 25 (3 * k) r n && ((decide (X.1 19 s &&& 1 = 0) || x_cov X 21 (3 * s) r n) && (decide (X.1 19 s &&& 2 = 0) || x_cov X 22 (3 * s) r n))) && (if X.1 26 k < 0 then true else x_stl X r k n)) := by
    intro n
    induction n with
    | zero =>
      intro _
      show true = _
      rw [show x_cov X 25 (3 * k) r 0 = true from rfl, show x_cov X 21 (3 * s) r 0 = true from rfl, show x_cov X 22 (3 * s) r 0 = true from rfl, show x_stl X r k 0 = true from rfl]
      simp
    | succ n ih =>
      intro hn
      obtain ⟨he, ha⟩ := hE n (by omega)
      have he' := x_rg_nn he (by omega)
      have ha' := x_rg_nn ha (by omega)
      have hst := of_decide_eq_true h26
      have est : X.1 26 k = -1 ↔ X.1 26 k < 0 := by
        rw [Int32.lt_iff_toInt_lt, ← Int32.toInt_inj, Int32.toInt_zero, show (-1 : Int32).toInt = -1 by decide]
        omega
      have e1 : decide (y_lst X E k s n ≤ X.1 15 (3 * r + n)) = ((decide (X.1 25 (3 * k + n) ≤ X.1 15 (3 * r + n)) && ((decide (X.1 19 s &&& 1 = 0) || decide (X.1 21 (3 * s + n) ≤ X.1 15 (3 * r + n))) && (decide (X.1 19 s &&& 2 = 0) || decide (X.1 22 (3 * s + n) ≤ X.1 15 (3 * r + n))))) && (if X.1 26 k < 0 then true else decide (X.1 1 n - X.1 15 (3 * r + n) ≤ X.1 26 k))) := by
        rw [h25 n (by omega)]
        unfold y_lst y_m1
        by_cases c3 : X.1 26 k < 0
        · rw [if_pos (est.mpr c3), if_pos c3]
          by_cases c1 : X.1 19 s &&& 1 = 0 <;> by_cases c2 : X.1 19 s &&& 2 = 0 <;> simp [c1, c2, mx_le, Bool.and_assoc]
        · rw [if_neg (fun q => c3 (est.mp q)), if_neg c3]
          have c4 : 0 ≤ (X.1 26 k).toInt := by
            rw [Int32.lt_iff_toInt_lt, Int32.toInt_zero] at c3
            omega
          have c5 : (X.1 1 n - X.1 26 k ≤ X.1 15 (3 * r + n)) ↔ (X.1 1 n - X.1 15 (3 * r + n) ≤ X.1 26 k) := by
            rw [Int32.le_iff_toInt_le, Int32.le_iff_toInt_le, i_sub he'.1 c4, i_sub he'.1 ha'.1]
            omega
          by_cases c1 : X.1 19 s &&& 1 = 0 <;> by_cases c2 : X.1 19 s &&& 2 = 0 <;> simp [c1, c2, mx_le, c5, Bool.and_assoc]
      show (y_mayN X E r k s n && decide (y_lst X E k s n ≤ X.1 15 (3 * r + n))) = _
      rw [ih (by omega), e1]
      show _ = (((x_cov X 25 (3 * k) r n && decide (X.1 25 (3 * k + n) ≤ X.1 15 (3 * r + n))) && ((decide (X.1 19 s &&& 1 = 0) || (x_cov X 21 (3 * s) r n && decide (X.1 21 (3 * s + n) ≤ X.1 15 (3 * r + n)))) && (decide (X.1 19 s &&& 2 = 0) || (x_cov X 22 (3 * s) r n && decide (X.1 22 (3 * s + n) ≤ X.1 15 (3 * r + n)))))) && (if X.1 26 k < 0 then true else (x_stl X r k n && decide (X.1 1 n - X.1 15 (3 * r + n) ≤ X.1 26 k))))
      generalize x_cov X 25 (3 * k) r n = a1
      generalize x_cov X 21 (3 * s) r n = a2
      generalize x_cov X 22 (3 * s) r n = a3
      generalize x_stl X r k n = a4
      generalize decide (X.1 25 (3 * k + n) ≤ X.1 15 (3 * r + n)) = b1
      generalize decide (X.1 21 (3 * s + n) ≤ X.1 15 (3 * r + n)) = b2
      generalize decide (X.1 22 (3 * s + n) ≤ X.1 15 (3 * r + n)) = b3
      generalize decide (X.1 1 n - X.1 15 (3 * r + n) ≤ X.1 26 k) = b4
      generalize decide (X.1 19 s &&& 1 = 0) = c1
      generalize decide (X.1 19 s &&& 2 = 0) = c2
      by_cases c3 : X.1 26 k < 0
      · rw [if_pos c3, if_pos c3, if_pos c3]
        revert a1 a2 a3 b1 b2 b3 c1 c2; decide
      · rw [if_neg c3, if_neg c3, if_neg c3]
        cases a1 <;> cases a2 <;> cases a3 <;> cases a4 <;> cases c1 <;> cases c2 <;> simp <;> (revert b1 b2 b3 b4; decide)
  rw [key P (Nat.le_refl _)]
  rfl
theorem y_may_up {r k : Nat} (hu : X.1 18 r = 0) : x_may X P r k = false := by
  unfold x_may x_may0
  rw [decide_eq_true hu]
  rfl
theorem y_mayAnswer (hL : LC m G P R) {r k s : Nat} (hr : cx G 4 r) (hk : cx G 17 k) (hd : y_rd X E k s P) (hE : ∀ p, p < P → x_ix (X.1 1 p) 401 ∧ x_ix (X.1 15 (3 * r + p)) 401) :
    am_W sc 58 0 [.ref (ca G 1 0), .ref (ca G 4 r), .ref (ca G 17 k), .retAddr 1] [] (cm m G X E) (am_R1 (some (.int (x_b (x_may X P r k)))) (cm m G X E)) := by
  have h1 := hL.2.1
  have hP := hL.2.2.2
  refine am_aload_n iX6_mayAnswer_0 rfl rfl ?_
  refine y_getI (o := 18) hL (by assumption) iX6_mayAnswer_1 fX6_mayAnswer_97 rfl rfl rfl rfl ?_
  refine am_if_ne iX6_mayAnswer_4 (fun h2 => ?_) (fun h2 => ?_)
  · rw [← y_may_x hd h2 hE (by omega)]
    have mono : ∀ d p, p + d = P → y_mayN X E r k s p = false → y_mayN X E r k s P = false := by
      intro d
      induction d with
      | zero => intro p hp h; rw [show P = p by omega]; exact h
      | succ d ih =>
        intro p hp h
        exact ih (p + 1) (by omega) (by show (y_mayN X E r k s p && _) = false; rw [h]; rfl)
    have key : ∀ d p : Nat, p + d = P → y_mayN X E r k s p = true → am_W sc 58 11 [.ref (ca G 1 0), .ref (ca G 4 r), .ref (ca G 17 k), .int (nI p)] [] (cm m G X E) (am_R1 (some (.int (x_b (y_mayN X E r k s P)))) (cm m G X E)) := by
      intro d
      induction d with
      | zero =>
        intro p hp ht
        have e : P = p := by omega
        subst e
        rw [ht]
        refine am_iload_n iX6_mayAnswer_11 rfl rfl ?_
        refine am_aload_n iX6_mayAnswer_12 rfl rfl ?_
        refine y_getR hL (by assumption) iX6_mayAnswer_13 fX6_mayAnswer_11 rfl rfl rfl (fun _ => ?_)
        refine y_alen (len := P) hL (by assumption) iX6_mayAnswer_16 rfl rfl rfl rfl ?_
        refine am_icmp_ge iX6_mayAnswer_17 (fun _ => ?_) (fun hc => absurd (nI_le (Nat.le_refl _) (by omega)) hc)
        refine am_iconst (i := 1) (v := 1) rfl iX6_mayAnswer_43 ?_
        exact am_zret iX6_mayAnswer_44 rfl (by first | exact Or.inl rfl | exact Or.inr rfl) (⟨rfl, rfl⟩)
      | succ d ih =>
        intro p hp ht
        have e1 : y_mayN X E r k s (p + 1) = (y_mayN X E r k s p && decide (y_lst X E k s p ≤ X.1 15 (3 * r + p))) := rfl
        refine am_iload_n iX6_mayAnswer_11 rfl rfl ?_
        refine am_aload_n iX6_mayAnswer_12 rfl rfl ?_
        refine y_getR hL (by assumption) iX6_mayAnswer_13 fX6_mayAnswer_11 rfl rfl rfl (fun _ => ?_)
        refine y_alen (len := P) hL (by assumption) iX6_mayAnswer_16 rfl rfl rfl rfl ?_
        refine am_icmp_ge iX6_mayAnswer_17 (fun hc => absurd hc (fun q => absurd ((nI_leI (by omega) (by omega)).mp q) (by omega))) (fun _ => ?_)
        refine am_aload_n iX6_mayAnswer_20 rfl rfl ?_
        refine y_getR hL (by assumption) iX6_mayAnswer_21 fX6_mayAnswer_127 rfl rfl rfl (fun _ => ?_)
        refine am_iload_n iX6_mayAnswer_24 rfl rfl ?_
        refine y_iald (p) hL (by assumption) iX6_mayAnswer_25 (by first | rfl | simp only [nI_add, pk_mul, nI_1, nL0, nL1, nL2, nL3, nL4, nL10, nL30, nL300, nL401]) ((show p < 3 by omega)) rfl rfl rfl rfl ?_
        refine am_aload_n iX6_mayAnswer_26 rfl rfl ?_
        refine am_aload_n iX6_mayAnswer_27 rfl rfl ?_
        refine am_iload_n iX6_mayAnswer_28 rfl rfl ?_
        refine am_cV2r iX6_mayAnswer_29 cX6_mayAnswer_291 mX6_leastFor (y_K hL (by assumption) rfl rfl) rfl rfl rfl (y_leastFor hL hk hd.1 hd.2.1 (show p < P by omega)) ?_
        refine am_icmp_ge iX6_mayAnswer_32 (fun h3 => ?_) (fun h3 => ?_)
        · refine am_iinc_3 1 iX6_mayAnswer_37 rfl rfl rfl ?_
          refine am_goto iX6_mayAnswer_40 ?_
          rw [nI_1]
          exact ih (p + 1) (by omega) (by rw [e1, ht, decide_eq_true h3]; rfl)
        · rw [mono d (p + 1) (by omega) (by rw [e1, ht, decide_eq_false h3]; rfl)]
          refine am_iconst (i := 0) (v := 0) rfl iX6_mayAnswer_35 ?_
          exact am_zret iX6_mayAnswer_36 rfl (by first | exact Or.inl rfl | exact Or.inr rfl) (⟨rfl, rfl⟩)
    refine am_iconst (i := 0) (v := 0) rfl iX6_mayAnswer_9 ?_
    refine am_istore_n_3 iX6_mayAnswer_10 rfl rfl ?_
    exact key P 0 (by omega) rfl
  · rw [y_may_up h2]
    refine am_iconst (i := 0) (v := 0) rfl iX6_mayAnswer_7 ?_
    exact am_zret iX6_mayAnswer_8 rfl (by first | exact Or.inl rfl | exact Or.inr rfl) (⟨rfl, rfl⟩)
theorem y_see (hL : LC m G P R) {s r : Nat} (hs : cx G 14 s) (hr : cx G 13 r) : am_W sc 11 0 [.ref (ca G 14 s), .ref (ca G 13 r), .retAddr 1] [] (cm m G X E) (am_R1 none (cm m G (x_see X r s 3) E)) := by
  have key : ∀ d p : Nat, p + d = 3 → am_W sc 11 2 [.ref (ca G 14 s), .ref (ca G 13 r), .int (nI p)] [] (cm m G (x_see X r s p) E) (am_R1 none (cm m G (x_see X r s 3) E)) := by
    intro d
    induction d with
    | zero =>
      intro p hp
      have e : p = 3 := by omega
      subst e
      refine am_iload_n iX4_see_2 rfl rfl ?_
      refine am_iconst (i := 3) (v := 3) rfl iX4_see_3 ?_
      refine am_icmp_ge iX4_see_4 (fun _ => ?_) (fun hc => absurd (by decide) hc)
      exact am_vret iX4_see_31 rfl (⟨rfl, rfl⟩)
    | succ d ih =>
      intro p hp
      have hp3 : p < 3 := by omega
      refine am_iload_n iX4_see_2 rfl rfl ?_
      refine am_iconst (i := 3) (v := 3) rfl iX4_see_3 ?_
      refine am_icmp_ge iX4_see_4 (fun hc => absurd hc (fun q => absurd ((nI_leI (a := 3) (b := p) (by omega) (by omega)).mp q) (by omega))) (fun _ => ?_)
      refine am_aload_n iX4_see_7 rfl rfl ?_
      refine y_getR hL (by assumption) iX4_see_8 fX4_see_15 rfl rfl rfl (fun _ => ?_)
      refine am_iload_n iX4_see_11 rfl rfl ?_
      refine am_aload_n iX4_see_12 rfl rfl ?_
      refine y_getR hL (by assumption) iX4_see_13 fX4_see_15 rfl rfl rfl (fun _ => ?_)
      refine am_iload_n iX4_see_16 rfl rfl ?_
      refine y_iald (p) hL (by assumption) iX4_see_17 (by first | rfl | simp only [nI_add, pk_mul, nI_1, nL0, nL1, nL2, nL3, nL4, nL10, nL30, nL300, nL401]) (hp3) rfl rfl rfl rfl ?_
      refine am_aload_n iX4_see_18 rfl rfl ?_
      refine am_iload_n iX4_see_19 rfl rfl ?_
      refine y_iald (p) hL (by assumption) iX4_see_20 (by first | rfl | simp only [nI_add, pk_mul, nI_1, nL0, nL1, nL2, nL3, nL4, nL10, nL30, nL300, nL401]) (hp3) rfl rfl rfl rfl ?_
      refine am_mmax iX4_see_21 wd_334 wd_298 wd_12 g_mx3 (Nat.le_of_ble_eq_true rfl) (Nat.le_of_ble_eq_true rfl) ?_
      rw [mx_eq]
      refine y_iast (p) hL (by assumption) iX4_see_24 (by first | rfl | simp only [nI_add, pk_mul, nI_1, nL0, nL1, nL2, nL3, nL4, nL10, nL30, nL300, nL401]) (hp3) rfl rfl rfl rfl ?_
      refine am_iinc_2 1 iX4_see_25 rfl rfl rfl ?_
      refine am_goto iX4_see_28 ?_
      rw [nI_1]
      exact ih (p + 1) (by omega)
  refine am_iconst (i := 0) (v := 0) rfl iX4_see_0 ?_
  refine am_istore_n_2 iX4_see_1 rfl rfl ?_
  exact key 3 0 rfl
theorem y_see3 {r s : Nat} (hP : P ≤ 3) (hz : ∀ q, P ≤ q → q < 3 → X.1 22 (3 * s + q) = 0 ∧ X.1 15 (3 * r + q) = 0) : x_see X r s 3 = x_see X r s P := by
  have key : ∀ d p, p + d = 3 → P ≤ p → x_see X r s 3 = x_see X r s p := by
    intro d
    induction d with
    | zero => intro p hp _; rw [show p = 3 by omega]
    | succ d ih =>
      intro p hp hq
      rw [ih (p + 1) (by omega) (by omega)]
      refine xU_id _ ?_
      have e22 : (x_see X r s p).1 22 (3 * s + p) = 0 := by
        have : ∀ n, n ≤ p → (x_see X r s n).1 22 (3 * s + p) = 0 := by
          intro n
          induction n with
          | zero => intro _; exact (hz p hq (by omega)).1
          | succ n ih2 =>
            intro hn
            exact (xU_j _ _ (by omega)).trans (ih2 (by omega))
        exact this p (Nat.le_refl _)
      rw [e22, x_see_o _ _ _ (by decide), (hz p hq (by omega)).2]
      rfl
  exact key (3 - P) P (by omega) (Nat.le_refl _)
set_option maxHeartbeats 1000000 in
theorem y_answer (hL : LC m G P R) {r k s : Nat} (hr : r < R) (hk : cx G 17 k) (hd : y_rd X E k s P) (hS : y_S X r) (hz : ∀ q, P ≤ q → q < 3 → X.1 22 (3 * s + q) = 0 ∧ X.1 15 (3 * r + q) = 0) :
    am_W sc 63 0 [.ref (ca G 1 0), .ref (ca G 17 k), .int (nI r), .retAddr 1] [] (cm m G X E) (am_R1 none (cm m G (x_ans X P r k) (xU E 0 1 (E.1 0 1 + 1)))) := by
  have h1 := hL.2.1
  have hP := hL.2.2.2
  obtain ⟨hs, h24, -, -, hq⟩ := hd
  unfold x_ans
  rw [h24, nt_nI (by omega), ← y_see3 (X := x_ans0 X P r k) (by omega) (fun q q1 q2 => by
    rw [x_ans0_o _ _ _ _ (by decide) (by decide) (by decide), x_ans0_o _ _ _ _ (by decide) (by decide) (by decide)]
    exact hz q q1 q2)]
  refine am_aload_n iX6_answer_0 rfl rfl ?_
  refine y_getR hL (by assumption) iX6_answer_1 fX6_answer_18 rfl rfl rfl (fun _ => ?_)
  refine am_iload_n iX6_answer_4 rfl rfl ?_
  refine y_reps (r) hL (by assumption) iX6_answer_5 (by first | rfl | simp only [nI_add, pk_mul, nI_1, nL0, nL1, nL2, nL3, nL4, nL10, nL30, nL300, nL401]) (hr) (fun _ => ?_)
  refine am_astore_n_3 iX6_answer_6 rfl rfl ?_
  refine am_aload_n iX6_answer_7 rfl rfl ?_
  refine am_iconst (i := 1) (v := 1) rfl iX6_answer_8 ?_
  refine y_putI (o := 23) hL (by assumption) iX6_answer_9 fX6_answer_171 rfl rfl rfl rfl rfl rfl ?_
  refine am_aload_n iX6_answer_12 rfl rfl ?_
  refine am_iload_n iX6_answer_13 rfl rfl ?_
  refine y_putI (o := 31) hL (by assumption) iX6_answer_14 fX6_answer_174 rfl rfl rfl rfl rfl rfl ?_
  refine am_aload_n iX6_answer_17 rfl rfl ?_
  refine am_aload_n iX6_answer_18 rfl rfl ?_
  refine y_getR hL (by assumption) iX6_answer_19 fX6_answer_194 rfl rfl rfl (fun _ => ?_)
  refine am_aload_n iX6_answer_22 rfl rfl ?_
  refine y_getI (o := 29) hL (by assumption) iX6_answer_23 fX6_answer_307 rfl rfl rfl rfl ?_
  refine am_aload_n iX6_answer_26 rfl rfl ?_
  refine y_getI (o := 30) hL (by assumption) iX6_answer_27 fX6_answer_308 rfl rfl rfl rfl ?_
  refine am_aload_n iX6_answer_30 rfl rfl ?_
  refine y_getR hL (by assumption) iX6_answer_31 fX6_answer_11 rfl rfl rfl (fun _ => ?_)
  refine y_alen (len := P) hL (by assumption) iX6_answer_34 rfl rfl rfl rfl ?_
  refine am_cV3r iX6_answer_35 cX6_answer_197 mX5_answerTo (y_K hL (by assumption) rfl rfl) rfl rfl rfl (y_answerTo hL ‹cx G 5 r› (X := xU (xU X 23 k 1) 31 k (nI r)) hq hS) ?_
  refine y_putJ (o := 32) hL (by assumption) iX6_answer_38 fX6_answer_177 rfl rfl rfl rfl rfl rfl ?_
  refine am_aload_n iX6_answer_41 rfl rfl ?_
  refine am_aload_n iX6_answer_42 rfl rfl ?_
  refine y_getR hL (by assumption) iX6_answer_43 fX6_answer_127 rfl rfl rfl (fun _ => ?_)
  have hat : cx G 13 r := by assumption
  refine am_cS1r iX6_answer_46 cX6_answer_93 mX6_tokenOf rfl rfl rfl (y_tokenOf (y_K hL hat rfl rfl) (y_L hL hat rfl)) ?_
  rw [y_I (o := 15) (i := 3 * r) hat (by decide) rfl rfl, y_I (o := 15) (i := 3 * r + 1) hat (by decide) rfl rfl, y_I (o := 15) (i := 3 * r + 2) hat (by decide) rfl rfl]
  refine y_putJ (o := 33) hL (by assumption) iX6_answer_49 fX6_answer_180 rfl rfl rfl rfl rfl rfl ?_
  refine am_aload_n iX6_answer_52 rfl rfl ?_
  refine am_aload_n iX6_answer_53 rfl rfl ?_
  refine y_getI (o := 0) hL (by assumption) iX6_answer_54 fX6_answer_107 rfl rfl rfl rfl ?_
  refine y_putI (o := 34) hL (by assumption) iX6_answer_57 fX6_answer_183 rfl rfl rfl rfl rfl rfl ?_
  refine am_aload_n iX6_answer_60 rfl rfl ?_
  refine am_dup iX6_answer_61 rfl ?_
  refine y_getE (o := 0) hL (by assumption) iX6_answer_62 fX6_answer_234 rfl rfl rfl ?_
  refine am_iconst (i := 1) (v := 1) rfl iX6_answer_65 ?_
  refine am_iadd iX6_answer_66 ?_
  refine y_putE (o := 0) hL (by assumption) iX6_answer_67 fX6_answer_234 rfl rfl rfl rfl rfl ?_
  show am_W _ _ _ _ _ (cm m G (x_ans0 X P r k) (xU E 0 1 (E.1 0 1 + 1))) _
  have e24 : (x_ans0 X P r k).1 24 k = nI s := by rw [x_ans0_o _ _ _ _ (by decide) (by decide) (by decide)]; exact h24
  generalize x_ans0 X P r k = Z at e24 ⊢
  refine am_aload_n iX6_answer_70 rfl rfl ?_
  refine y_getR hL (by assumption) iX6_answer_71 fX6_answer_25 rfl rfl rfl (fun _ => ?_)
  refine am_aload_n iX6_answer_74 rfl rfl ?_
  refine y_getI (o := 24) hL (by assumption) iX6_answer_75 fX6_answer_186 rfl rfl rfl rfl ?_
  rw [e24]
  refine y_sess (s) hL (by assumption) iX6_answer_78 (by first | rfl | simp only [nI_add, pk_mul, nI_1, nL0, nL1, nL2, nL3, nL4, nL10, nL30, nL300, nL401]) (hs) (fun _ => ?_)
  refine am_aload_n iX6_answer_79 rfl rfl ?_
  refine y_getR hL (by assumption) iX6_answer_80 fX6_answer_127 rfl rfl rfl (fun _ => ?_)
  refine am_cV1v iX6_answer_83 cX6_answer_311 mX4_see (y_K hL (by assumption) rfl rfl) rfl rfl rfl (y_see hL (by assumption) hat) ?_
  exact am_vret iX6_answer_86 rfl (⟨rfl, rfl⟩)
theorem y_fail (hL : LC m G P R) {k : Nat} (hk : cx G 17 k) : am_W sc 64 0 [.ref (ca G 1 0), .ref (ca G 17 k)] [] (cm m G X E) (am_R1 none (cm m G (x_fail X k) (xU E 0 2 (E.1 0 2 + 1)))) := by
  have h1 := hL.2.1
  refine am_aload_n iX6_fail_0 rfl rfl ?_
  refine am_iconst (i := 2) (v := 2) rfl iX6_fail_1 ?_
  refine y_putI (o := 23) hL (by assumption) iX6_fail_2 fX6_fail_171 rfl rfl rfl rfl rfl rfl ?_
  refine am_aload_n iX6_fail_5 rfl rfl ?_
  refine am_aload_n iX6_fail_6 rfl rfl ?_
  refine y_getI (o := 0) hL (by assumption) iX6_fail_7 fX6_fail_107 rfl rfl rfl rfl ?_
  refine y_putI (o := 34) hL (by assumption) iX6_fail_10 fX6_fail_183 rfl rfl rfl rfl rfl rfl ?_
  refine am_aload_n iX6_fail_13 rfl rfl ?_
  refine am_dup iX6_fail_14 rfl ?_
  refine y_getE (o := 0) hL (by assumption) iX6_fail_15 fX6_fail_237 rfl rfl rfl ?_
  refine am_iconst (i := 1) (v := 1) rfl iX6_fail_18 ?_
  refine am_iadd iX6_fail_19 ?_
  refine y_putE (o := 0) hL (by assumption) iX6_fail_20 fX6_fail_237 rfl rfl rfl rfl rfl ?_
  exact am_vret iX6_fail_23 rfl (⟨rfl, rfl⟩)
def y_fst (X : ms_X) (P R h k d r : Nat) : Int32 := if x_fs X P R h k d r < R then nI ((h + x_fs X P R h k d r) % R) else -1
theorem y_firstThatMay (hL : LC m G P R) {k s h : Nat} (hk : cx G 17 k) (hd : y_rd X E k s P) (hh : X.1 20 s = nI h) (hh4 : h < R) (hE : ∀ r p, r < R → p < P → x_ix (X.1 1 p) 401 ∧ x_ix (X.1 15 (3 * r + p)) 401) :
    am_W sc 57 0 [.ref (ca G 1 0), .ref (ca G 17 k), .retAddr 1, .retAddr 1] [] (cm m G X E) (am_R1 (some (.int (y_fst X P R h k R 0))) (cm m G X E)) := by
  have h1 := hL.2.1
  have hP := hL.2.2.2
  have key : ∀ d r : Nat, r + d = R → am_W sc 57 15 [.ref (ca G 1 0), .ref (ca G 17 k), .int (nI ((h + r) % R)), .int (nI r)] [] (cm m G X E) (am_R1 (some (.int (y_fst X P R h k d r))) (cm m G X E)) := by
    intro d
    induction d with
    | zero =>
      intro r hr
      have e : R = r := by omega
      subst e
      unfold y_fst
      rw [if_neg (show ¬ x_fs X P R h k 0 R < R from Nat.lt_irrefl _)]
      refine am_iload_n iX6_firstThatMay_15 rfl rfl ?_
      refine am_aload_n iX6_firstThatMay_16 rfl rfl ?_
      refine y_getR hL (by assumption) iX6_firstThatMay_17 fX6_firstThatMay_18 rfl rfl rfl (fun _ => ?_)
      refine y_alen (len := R) hL (by assumption) iX6_firstThatMay_20 rfl rfl rfl rfl ?_
      refine am_icmp_ge iX6_firstThatMay_21 (fun _ => ?_) (fun hc => absurd (nI_le (Nat.le_refl _) (by omega)) hc)
      refine am_iconst (i := -1) (v := -1) rfl iX6_firstThatMay_56 ?_
      exact am_iret iX6_firstThatMay_57 rfl (⟨rfl, rfl⟩)
    | succ d ih =>
      intro r hr
      have hm : (h + r) % R < R := Nat.mod_lt _ (by omega)
      refine am_iload_n iX6_firstThatMay_15 rfl rfl ?_
      refine am_aload_n iX6_firstThatMay_16 rfl rfl ?_
      refine y_getR hL (by assumption) iX6_firstThatMay_17 fX6_firstThatMay_18 rfl rfl rfl (fun _ => ?_)
      refine y_alen (len := R) hL (by assumption) iX6_firstThatMay_20 rfl rfl rfl rfl ?_
      refine am_icmp_ge iX6_firstThatMay_21 (fun hc => absurd hc (fun q => absurd ((nI_leI (by omega) (by omega)).mp q) (by omega))) (fun _ => ?_)
      refine am_aload_n iX6_firstThatMay_24 rfl rfl ?_
      refine am_aload_n iX6_firstThatMay_25 rfl rfl ?_
      refine y_getR hL (by assumption) iX6_firstThatMay_26 fX6_firstThatMay_18 rfl rfl rfl (fun _ => ?_)
      refine am_iload_n iX6_firstThatMay_29 rfl rfl ?_
      refine y_reps ((h + r) % R) hL (by assumption) iX6_firstThatMay_30 (by first | rfl | simp only [nI_add, pk_mul, nI_1, nL0, nL1, nL2, nL3, nL4, nL10, nL30, nL300, nL401]) (hm) (fun _ => ?_)
      refine am_aload_n iX6_firstThatMay_31 rfl rfl ?_
      refine am_cV2r iX6_firstThatMay_32 cX6_firstThatMay_287 mX6_mayAnswer (y_K hL (by assumption) rfl rfl) rfl rfl rfl (y_mayAnswer hL (by assumption) hk hd (fun p hp => hE _ p hm hp)) ?_
      have e1 : x_fs X P R h k (d + 1) r = if x_may X P ((h + r) % R) k = true then r else x_fs X P R h k d (r + 1) := rfl
      cases c1 : x_may X P ((h + r) % R) k
      · refine am_if_eq iX6_firstThatMay_35 (fun _ => ?_) (fun hc => absurd (by decide) hc)
        rw [c1, if_neg (by decide)] at e1
        refine am_iload_n iX6_firstThatMay_40 rfl rfl ?_
        refine am_aload_n iX6_firstThatMay_41 rfl rfl ?_
        refine y_getR hL (by assumption) iX6_firstThatMay_42 fX6_firstThatMay_18 rfl rfl rfl (fun _ => ?_)
        refine y_alen (len := R) hL (by assumption) iX6_firstThatMay_45 rfl rfl rfl rfl ?_
        refine am_cS2r iX6_firstThatMay_46 cX6_firstThatMay_281 mX6_theNext rfl rfl rfl (y_next hm (by omega)) ?_
        refine am_istore_n_2 iX6_firstThatMay_49 rfl rfl ?_
        refine am_iinc_3 1 iX6_firstThatMay_50 rfl rfl rfl ?_
        refine am_goto iX6_firstThatMay_53 ?_
        rw [nI_1, show ((h + r) % R + 1) % R = (h + (r + 1)) % R by rw [Nat.mod_add_mod, Nat.add_assoc]]
        have := ih (r + 1) (by omega)
        unfold y_fst at this ⊢
        rw [e1]
        exact this
      · refine am_if_eq iX6_firstThatMay_35 (fun hc => absurd hc (by decide)) (fun _ => ?_)
        rw [c1, if_pos rfl] at e1
        unfold y_fst
        rw [e1, if_pos (by omega)]
        refine am_iload_n iX6_firstThatMay_38 rfl rfl ?_
        exact am_iret iX6_firstThatMay_39 rfl (⟨rfl, rfl⟩)
  refine am_aload_n iX6_firstThatMay_0 rfl rfl ?_
  refine y_getR hL (by assumption) iX6_firstThatMay_1 fX6_firstThatMay_25 rfl rfl rfl (fun _ => ?_)
  refine am_aload_n iX6_firstThatMay_4 rfl rfl ?_
  refine y_getI (o := 24) hL (by assumption) iX6_firstThatMay_5 fX6_firstThatMay_186 rfl rfl rfl rfl ?_
  rw [hd.2.1]
  refine y_sess (s) hL (by assumption) iX6_firstThatMay_8 (by first | rfl | simp only [nI_add, pk_mul, nI_1, nL0, nL1, nL2, nL3, nL4, nL10, nL30, nL300, nL401]) (hd.1) (fun _ => ?_)
  refine y_getI (o := 20) hL (by assumption) iX6_firstThatMay_9 fX6_firstThatMay_55 rfl rfl rfl rfl ?_
  rw [hh]
  refine am_istore_n_2 iX6_firstThatMay_12 rfl rfl ?_
  refine am_iconst (i := 0) (v := 0) rfl iX6_firstThatMay_13 ?_
  refine am_istore_n_3 iX6_firstThatMay_14 rfl rfl ?_
  have := key R 0 (by omega)
  rw [show (h + 0) % R = h from Nat.mod_eq_of_lt hh4] at this
  exact this
end
