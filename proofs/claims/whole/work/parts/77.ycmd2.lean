/-! the class: command, as a public call -/
section
variable {sc : Nat × (Nat → Int32)} {m m2 : am_Mem} {G : cg_G} {X E : ms_X} {P R N T : Nat}
theorem c_ad18 {a b k : Nat} (f18 : ∀ c, co G c ≠ (18, k)) : ∀ c, co (c_ad G b 19 k) c ≠ (18, k) := by
  intro c
  by_cases q : c = b
  · subst q
    rw [c_ad_s]
    exact fun z => absurd (show 19 = 18 from congrArg Prod.fst z) (by decide)
  · rw [c_ad_o q]; exact f18 c
theorem cv19 (k j : Nat) : cvJ 19 k j = none := rfl
theorem cv18 (k j : Nat) : cvJ 18 k j = none := rfl
theorem cv18_0 (k : Nat) : cvI 18 k 0 = some (3, k) := rfl
theorem cv18_1 (k : Nat) : cvI 18 k 1 = some (4, k) := rfl
theorem cv18_2 (k : Nat) : cvI 18 k 2 = some (5, k) := rfl
theorem cv18_3 (k : Nat) : cvI 18 k 3 = some (6, k) := rfl
theorem cv18_4 (k j : Nat) : cvI 18 k (j + 4) = none := rfl
theorem ci7 (i : Nat) : ciI (7, i) = (19, i / 3, i % 3) := rfl
theorem ci3 (k : Nat) : ciI (3, k) = (18, k, 0) := rfl
theorem ci4 (k : Nat) : ciI (4, k) = (18, k, 1) := rfl
theorem ci5 (k : Nat) : ciI (5, k) = (18, k, 2) := rfl
theorem ci6 (k : Nat) : ciI (6, k) = (18, k, 3) := rfl
theorem yI_lt {o i : Nat} (h : o < 35) : yI X E (o, i) = X.1 o i := if_pos h
theorem cm_adC1 {b n k : Nat} (hb : (co G b).1 = 0) (f19 : ∀ c, co G c ≠ (19, k)) (hI : ∀ j, j < 3 → am_I m b j = x_nd X n j) : cm m G X E = cm m (c_ad G b 19 k) (x_ndN X n k 3) E := by
  refine cm_ad hb f19 (fun j q hq => ?_) (fun j q hq => ?_) (fun q _ hq => ?_) (fun q _ _ => ?_)
  · by_cases hj : j < 3
    · rw [show cvI 19 k j = some (7, 3 * k + j) from if_pos hj] at hq
      obtain rfl := Option.some.inj hq
      rw [yI_lt (by decide), x_ndN_7 _ _ _ hj 3 (Nat.le_refl _), if_pos ⟨rfl, hj⟩]
      exact (hI j hj).symm
    · rw [show cvI 19 k j = none from if_neg hj] at hq
      cases hq
  · rw [cv19] at hq
    cases hq
  · have : ∀ i, i ≤ 3 → yI (x_ndN X n k i) E q = yI X E q := by
      intro i
      induction i with
      | zero => intro _; rfl
      | succ i ih =>
        intro hi
        refine (yI_U' (fun z => hq ?_)).trans (ih (by omega))
        rw [z, ci7]
        refine ⟨rfl, ?_⟩
        show (3 * k + i) / 3 = k
        omega
    exact this 3 (Nat.le_refl _)
  · unfold yJ
    rw [x_ndN_J]
theorem cm_adC2 {a k : Nat} {kd it cu am : Int32} (ha : (co G a).1 = 0) (f18 : ∀ c, co G c ≠ (18, k)) (c0 : am_I m a 0 = kd) (c1 : am_I m a 1 = it) (c2 : am_I m a 2 = cu) (c3 : am_I m a 3 = am) :
    cm m G X E = cm m (c_ad G a 18 k) (xU (xU (xU (xU X 3 k kd) 4 k it) 5 k cu) 6 k am) E := by
  refine cm_ad ha f18 (fun j q hq => ?_) (fun j q hq => ?_) (fun q _ hq => ?_) (fun q _ _ => rfl)
  · by_cases j0 : j = 0
    · subst j0
      rw [cv18_0] at hq
      obtain rfl := Option.some.inj hq
      rw [yI_lt (by decide), xU_o _ _ (by decide), xU_o _ _ (by decide), xU_o _ _ (by decide), xU_s]
      exact c0.symm
    · by_cases j1 : j = 1
      · subst j1
        rw [cv18_1] at hq
        obtain rfl := Option.some.inj hq
        rw [yI_lt (by decide), xU_o _ _ (by decide), xU_o _ _ (by decide), xU_s]
        exact c1.symm
      · by_cases j2 : j = 2
        · subst j2
          rw [cv18_2] at hq
          obtain rfl := Option.some.inj hq
          rw [yI_lt (by decide), xU_o _ _ (by decide), xU_s]
          exact c2.symm
        · by_cases j3 : j = 3
          · subst j3
            rw [cv18_3] at hq
            obtain rfl := Option.some.inj hq
            rw [yI_lt (by decide), xU_s]
            exact c3.symm
          · obtain ⟨i, rfl⟩ : ∃ i, j = i + 4 := ⟨j - 4, by omega⟩
            rw [cv18_4] at hq
            cases hq
  · rw [cv18] at hq
    cases hq
  · have ne : ∀ o i, ciI (o, k) = (18, k, i) → q ≠ (o, k) := by
      intro o i h1 h2
      rw [h2, h1] at hq
      exact hq ⟨rfl, rfl⟩
    rw [yI_U' (ne 6 3 (ci6 k)), yI_U' (ne 5 2 (ci5 k)), yI_U' (ne 4 1 (ci4 k)), yI_U' (ne 3 0 (ci3 k))]
theorem cm_adC {a b n k : Nat} {kd it cu am : Int32} (ha : (co G a).1 = 0) (hb : (co G b).1 = 0) (hab : a ≠ b) (f19 : ∀ c, co G c ≠ (19, k)) (f18 : ∀ c, co G c ≠ (18, k)) (hI : ∀ j, j < 3 → am_I m b j = x_nd X n j) (c0 : am_I m a 0 = kd) (c1 : am_I m a 1 = it) (c2 : am_I m a 2 = cu) (c3 : am_I m a 3 = am) :
    cm m G X E = cm m (c_ad (c_ad G b 19 k) a 18 k) (xU (xU (xU (xU (x_ndN X n k 3) 3 k kd) 4 k it) 5 k cu) 6 k am) E :=
  (cm_adC1 hb f19 hI).trans (cm_adC2 (by rw [c_ad_o hab]; exact ha) (c_ad18 (a := a) f18) c0 c1 c2 c3)
theorem c_C_I {a b : Nat} {kd it cu am : Int32} : am_I (c_C m a kd it cu am b) a 0 = kd ∧ am_I (c_C m a kd it cu am b) a 1 = it ∧ am_I (c_C m a kd it cu am b) a 2 = cu ∧ am_I (c_C m a kd it cu am b) a 3 = am ∧ am_R (c_C m a kd it cu am b) a 4 = b := by
  refine ⟨?_, ?_, ?_, ?_, ?_⟩
  · exact (if_neg (fun z => absurd z.2 (by decide))).trans ((if_neg (fun z => absurd z.2 (by decide))).trans ((if_neg (fun z => absurd z.2 (by decide))).trans (if_pos ⟨rfl, rfl⟩)))
  · exact (if_neg (fun z => absurd z.2 (by decide))).trans ((if_neg (fun z => absurd z.2 (by decide))).trans (if_pos ⟨rfl, rfl⟩))
  · exact (if_neg (fun z => absurd z.2 (by decide))).trans (if_pos ⟨rfl, rfl⟩)
  · exact if_pos ⟨rfl, rfl⟩
  · exact if_pos ⟨rfl, rfl⟩
theorem c_C_o {a b c : Nat} {kd it cu am : Int32} (h : c ≠ a) (j : Nat) : am_I (c_C m a kd it cu am b) c j = am_I m c j :=
  (if_neg (fun z => h z.1)).trans ((if_neg (fun z => h z.1)).trans ((if_neg (fun z => h z.1)).trans (if_neg (fun z => h z.1))))
theorem IM.fresh (h : IM m G X P N) (hW : x_Wf X P R N) {p e : Nat} (hp : p < P) (he : nt (X.1 1 p) = e) (he4 : e < 400) {t : Nat} (ht : t = 18 ∨ t = 19) : ∀ c, co G c ≠ (t, 401 * p + (e + 1)) := by
  intro c z
  have hP3 := hW.1.2.2.2.1
  obtain ⟨p', q, b1, b2, b3, b4⟩ := (h.2.2 c).2 (by rw [z]; exact ht)
  rw [z] at b2
  have b2 : 401 * p + (e + 1) = 401 * p' + q := b2
  have b5 := (hW.2.2.1 p' (by omega)).1
  have : p' = p := by omega
  subst this
  omega
set_option maxHeartbeats 2000000 in
theorem y_cmd_end {a b p e n k : Nat} {kd it cu am : Int32} (hI : INV m G X E P R N T) (hrm : am_n m2 + 1 ≤ am_CM ∧ am_u m2 + 3 ≤ am_SM) (hu : c_up m m2) (hn : n < 8) (hp : p < P) (he : X.1 1 p = nI e) (he4 : e < 400) (h3 : x_ix kd 5) (h4 : x_ix it 30) (h5 : x_ix cu 10) (h6 : x_rg am 1 1000 = true) (hk : k = 401 * p + (e + 1))
    (ha : am_n m < a) (hb : am_n m < b) (ha2 : a ≤ am_n m2) (hb2 : b ≤ am_n m2) (hab : a ≠ b) (hnI : ∀ j, j < 3 → am_I m2 b j = x_nd X n j) (kb : am_K m2 b = 11) (lb : am_L m2 b = 3) (ka : am_K m2 a = 0) (la : am_L m2 a = 0)
    (c0 : am_I m2 a 0 = kd) (c1 : am_I m2 a 1 = it) (c2 : am_I m2 a 2 = cu) (c3 : am_I m2 a 3 = am) (c4 : am_R m2 a 4 = b) (hT : T + 100 ≤ 1000000) (z2 : X.1 0 2 = 0) (hm2 : am_n m2 ≤ am_n m + 2) (hm3 : am_u m2 ≤ am_u m + 10) :
    am_W sc 26 107 [.ref (ca G 1 0), .int (nI n), .int kd, .int it, .int cu, .int am, .int (nI p), .ref (ca G 2 p), .ref (ca G 14 n), .ref b] [.ref a, .ref (ca G 2 p)] (cm m2 G X E) (y_Q ((x_cmd1 X n p e kd it cu am).2.1 0 2) (kdf ((x_cmd1 X n p e kd it cu am).2.1 0 2)) (.long (x_cmd1 X n p e kd it cu am).1) (y_POST m G (x_cmd1 X n p e kd it cu am).2 P R (T + 100))) := by
  subst hk
  have hL0 := hI.1
  have hP3 := hL0.2.2.2
  have het : nt (X.1 1 p) = e := by rw [he, nt_nI (by omega)]
  have f19 := hI.2.1.fresh hI.2.2.1.1 hp het he4 (t := 19) (Or.inr rfl)
  have f18 := hI.2.1.fresh hI.2.2.1.1 hp het he4 (t := 18) (Or.inl rfl)
  have ha0 := hL0.n0 ha
  have hb0 := hL0.n0 hb
  have hI2 := hI.up hu
  rw [cm_adC (n := n) ha0 hb0 hab f19 f18 hnI c0 c1 c2 c3]
  have hLb : LC m2 (c_ad G b 19 (401 * p + (e + 1))) P R := hI2.1.ad hb0 f19 kb lb (by omega) hb2 (fun j t' n' h => by cases h)
  have hLC : LC m2 (c_ad (c_ad G b 19 (401 * p + (e + 1))) a 18 (401 * p + (e + 1))) P R := by
    refine hLb.ad (by rw [c_ad_o hab]; exact ha0) (c_ad18 (a := a) f18) ka la (by omega) ha2 (fun j t' n' h => ?_)
    have h : (if j = 4 then some (19, 401 * p + (e + 1)) else none) = some (t', n') := h
    by_cases hj : j = 4
    · subst hj
      rw [if_pos rfl] at h
      cases h
      rw [c_ad_a]
      exact ⟨c4, c_ad_x⟩
    · rw [if_neg hj] at h
      cases h
  have hInv := hI2.cmd (kd := kd) (it := it) (cu := cu) (am := am) hn hp he he4 h3 h4 h5 h6 ha0 hb0 hab f19 f18 hLC
  have tr : ∀ {t' n'}, cx G t' n' → t' ≠ 0 → cx (c_ad (c_ad G b 19 (401 * p + (e + 1))) a 18 (401 * p + (e + 1))) t' n' ∧ ca (c_ad (c_ad G b 19 (401 * p + (e + 1))) a 18 (401 * p + (e + 1))) t' n' = ca G t' n' := by
    intro t' n' hc h0
    obtain ⟨r1, r2⟩ := hc.ad hb0 f19 h0
    obtain ⟨r3, r4⟩ := r1.ad (a := a) (by rw [c_ad_o hab]; exact ha0) (c_ad18 (a := a) f18) h0
    exact ⟨r3, r4.trans r2⟩
  have x1 := tr hL0.2.1 (by decide)
  have x2 := tr (hL0.2.2.1 20 0 p 2 p (hL0.2.2.1 1 0 0 20 0 hL0.2.1 rfl).2 (if_pos hp)).2 (by decide)
  have x3 := tr (hL0.e3 hp) (by decide)
  have x14 := tr (hL0.2.2.1 22 0 n 14 n (hL0.2.2.1 1 0 2 22 0 hL0.2.1 rfl).2 (if_pos hn)).2 (by decide)
  have x19 : cx (c_ad (c_ad G b 19 (401 * p + (e + 1))) a 18 (401 * p + (e + 1))) 19 (401 * p + (e + 1)) ∧ ca (c_ad (c_ad G b 19 (401 * p + (e + 1))) a 18 (401 * p + (e + 1))) 19 (401 * p + (e + 1)) = b := by
    obtain ⟨r3, r4⟩ := (c_ad_x (G := G) (a := b) (t := 19) (n := 401 * p + (e + 1))).ad (a := a) (by rw [c_ad_o hab]; exact ha0) (c_ad18 (a := a) f18) (by decide)
    exact ⟨r3, r4.trans c_ad_a⟩
  have hun : ∀ c, (co G c).1 = 0 → c ≤ am_n m → (co (c_ad (c_ad G b 19 (401 * p + (e + 1))) a 18 (401 * p + (e + 1))) c).1 = 0 := by
    intro c hc hcm
    rw [c_ad_o (by omega), c_ad_o (by omega)]
    exact hc
  rw [← x3.2] at hInv
  generalize c_ad (c_ad G b 19 (401 * p + (e + 1))) a 18 (401 * p + (e + 1)) = G2 at hLC hInv x1 x2 x3 x14 x19 hun ⊢
  have hz : ∀ c, (co G c).1 = 0 → c ≤ am_n m → ca G2 3 p ≠ c := by
    intro c hc hcm q
    have := hun c hc hcm
    rw [← q, show co G2 (ca G2 3 p) = (3, p) from x3.1] at this
    cases this
  rw [← x1.2, ← x2.2, ← x14.2]
  have hL := hLC
  have x2' := x2.1
  have e5 : (xU (xU (xU (xU (x_ndN X n (401 * p + (e + 1)) 3) 3 (401 * p + (e + 1)) kd) 4 (401 * p + (e + 1)) it) 5 (401 * p + (e + 1)) cu) 6 (401 * p + (e + 1)) am).1 1 p = nI e := by
    rw [xU_o _ _ (by decide), xU_o _ _ (by decide), xU_o _ _ (by decide), xU_o _ _ (by decide), x_ndN_o _ _ _ (by decide), he]
  refine am_cV1v iX6_command_107 cX6_command_81 mX1_append (y_K hL (by assumption) rfl rfl) rfl rfl rfl (y_append hL x2.1 ka e5 he4) ?_
  have hL := hLC.sRg x3.1 (fun _ => rfl) (fun i => if i = e then a else am_R m2 (ca G2 3 p) i)
  have e6 : xU (xU (xU (xU (xU (x_ndN X n (401 * p + (e + 1)) 3) 3 (401 * p + (e + 1)) kd) 4 (401 * p + (e + 1)) it) 5 (401 * p + (e + 1)) cu) 6 (401 * p + (e + 1)) am) 1 p (nI (e + 1)) = x_ndN (x_cmd0 X p (401 * p + (e + 1)) (nI (e + 1)) kd it cu am) n (401 * p + (e + 1)) 3 := by
    unfold x_cmd0
    rw [x_ndN_U _ _ _ _ (by decide) (by decide) (by decide) (by decide), x_ndN_U _ _ _ _ (by decide) (by decide) (by decide) (by decide), x_ndN_U _ _ _ _ (by decide) (by decide) (by decide) (by decide), x_ndN_U _ _ _ _ (by decide) (by decide) (by decide) (by decide), x_ndN_U _ _ _ _ (by decide) (by decide) (by decide) (by decide)]
    rw [xU_comm _ (o := 6) (o' := 1) _ _ (by decide), xU_comm _ (o := 5) (o' := 1) _ _ (by decide), xU_comm _ (o := 4) (o' := 1) _ _ (by decide), xU_comm _ (o := 3) (o' := 1) _ _ (by decide)]
  rw [e6]
  have e7 : (x_ndN (x_cmd0 X p (401 * p + (e + 1)) (nI (e + 1)) kd it cu am) n (401 * p + (e + 1)) 3).1 1 p = nI (e + 1) := by
    rw [x_ndN_o _ _ _ (by decide)]
    unfold x_cmd0
    rw [xU_o _ _ (by decide), xU_o _ _ (by decide), xU_o _ _ (by decide), xU_o _ _ (by decide), xU_s]
  have x14' := x14.1
  refine am_aload iX6_command_110 rfl ?_
  refine y_getR hL (by assumption) iX6_command_112 fX6_command_85 rfl rfl rfl (fun _ => ?_)
  refine am_iload iX6_command_115 rfl ?_
  refine am_aload iX6_command_117 rfl ?_
  refine y_getI (o := 1) hL (by assumption) iX6_command_119 fX6_command_62 rfl rfl rfl rfl ?_
  rw [e7]
  refine y_iast (p) hL (by assumption) iX6_command_122 (by first | rfl | simp only [nI_add, pk_mul, nI_1, nL0, nL1, nL2, nL3, nL4, nL10, nL30, nL300, nL401]) ((show p < 3 by omega)) rfl rfl rfl rfl ?_
  have e8 : xU (x_ndN (x_cmd0 X p (401 * p + (e + 1)) (nI (e + 1)) kd it cu am) n (401 * p + (e + 1)) 3) 21 (3 * n + p) (nI (e + 1)) = x_cmd2 X n p e kd it cu am := rfl
  rw [e8]
  have e9 : (x_cmd2 X n p e kd it cu am).1 1 p = nI (e + 1) := by rw [x_cmd2_1, if_pos rfl]
  refine am_aload iX6_command_123 rfl ?_
  refine am_iload iX6_command_125 rfl ?_
  refine am_aload iX6_command_127 rfl ?_
  refine y_getI (o := 1) hL (by assumption) iX6_command_129 fX6_command_62 rfl rfl rfl rfl ?_
  rw [e9, ← x19.2]
  have y19 := x19.1
  refine am_cS3r iX6_command_132 cX6_command_89 mX6_withPosition rfl rfl rfl (y_withPos (show p < 3 by omega) (y_K hL y19 rfl rfl) (y_L hL y19 rfl) (by have := hrm.1; show am_n m2 + 1 ≤ _; omega) (by have := hrm.2; show am_u m2 + 3 ≤ _; omega)) ?_
  have n0 : (co G2 (am_n m2 + 1)).1 = 0 := hLC.n0 (Nat.lt_succ_self _)
  have nm : am_n (cm (c_sR m2 (ca G2 3 p) (fun i => if i = e then a else am_R m2 (ca G2 3 p) i)) G2 (x_cmd2 X n p e kd it cu am) E) = am_n m2 := rfl
  rw [nm, cm_nw hL, cm_rowIu n0, cm_setIu n0]
  have vI : ∀ j, j < 3 → am_I (cm (c_sR m2 (ca G2 3 p) (fun i => if i = e then a else am_R m2 (ca G2 3 p) i)) G2 (x_cmd2 X n p e kd it cu am) E) (ca G2 19 (401 * p + (e + 1))) j = (x_cmd2 X n p e kd it cu am).1 7 (3 * (401 * p + (e + 1)) + j) := fun j hj => y_I y19 hj rfl rfl
  generalize hM : c_sR m2 (ca G2 3 p) (fun i => if i = e then a else am_R m2 (ca G2 3 p) i) = M at hL hInv vI ⊢
  obtain ⟨w, hw, hw2⟩ := x_nd_le (s := n) hI.2.2.2.1.2.2.2.2.2.2 hn (show p < 3 by omega)
  have vmax : (if am_I (cm M G2 (x_cmd2 X n p e kd it cu am) E) (ca G2 19 (401 * p + (e + 1))) p < nI (e + 1) then nI (e + 1) else am_I (cm M G2 (x_cmd2 X n p e kd it cu am) E) (ca G2 19 (401 * p + (e + 1))) p) = nI (e + 1) := by
    rw [vI p (by omega), x_cmd2_7 _ (by omega), if_pos rfl, hw]
    exact if_pos (nI_lt (by omega) (by omega))
  rw [vmax]
  generalize hg : am_I (cm M G2 (x_cmd2 X n p e kd it cu am) E) (ca G2 19 (401 * p + (e + 1))) = g at vI ⊢
  have nM : am_n M = am_n m2 := by rw [← hM]; rfl
  have uM : am_u M = am_u m2 := by rw [← hM]; rfl
  have up6 : c_up M (am_setI (am_rowI (am_new M 11 3 3) (am_n m2 + 1) g) (am_n m2 + 1) p (nI (e + 1))) := ((c_up.new M 11 3 3).rowI (by omega) g).setI (by omega) p _
  have k6 : am_K (am_setI (am_rowI (am_new M 11 3 3) (am_n m2 + 1) g) (am_n m2 + 1) p (nI (e + 1))) (am_n m2 + 1) = 11 := if_pos (by rw [← nM]; rfl)
  have l6 : am_L (am_setI (am_rowI (am_new M 11 3 3) (am_n m2 + 1) g) (am_n m2 + 1) p (nI (e + 1))) (am_n m2 + 1) = 3 := if_pos (by rw [← nM]; rfl)
  have i6 : ∀ j, am_I (cm (am_setI (am_rowI (am_new M 11 3 3) (am_n m2 + 1) g) (am_n m2 + 1) p (nI (e + 1))) G2 (x_cmd2 X n p e kd it cu am) E) (am_n m2 + 1) j = if p = j then nI (e + 1) else g j := by
    intro j
    rw [cm_Iu n0]
    by_cases c : p = j
    · subst c
      rw [if_pos rfl]
      exact if_pos ⟨rfl, rfl⟩
    · rw [if_neg c]
      exact (if_neg (fun z => c z.2.symm)).trans (if_pos rfl)
  have n6 : am_n (am_setI (am_rowI (am_new M 11 3 3) (am_n m2 + 1) g) (am_n m2 + 1) p (nI (e + 1))) = am_n m2 + 1 := by rw [← nM]; rfl
  have u6 : am_u (am_setI (am_rowI (am_new M 11 3 3) (am_n m2 + 1) g) (am_n m2 + 1) p (nI (e + 1))) = am_u m2 + 3 := by rw [← uM]; rfl
  generalize am_setI (am_rowI (am_new M 11 3 3) (am_n m2 + 1) g) (am_n m2 + 1) p (nI (e + 1)) = M6 at up6 k6 l6 i6 n6 u6 ⊢
  refine am_cS1r iX6_command_135 cX6_command_93 mX6_tokenOf rfl rfl rfl (y_tokenOf k6 l6) ?_
  rw [i6, i6, i6, vI 0 (by omega), vI 1 (by omega), vI 2 (by omega)]
  refine am_lret iX6_command_138 rfl ⟨⟨M6, G2, E, N, rfl, (hInv.up up6).mono (by omega) hT, ?_⟩, Or.inl ⟨?_, rfl⟩⟩
  · refine ⟨by rw [n6]; have := hu.1; omega, by rw [n6]; omega, by rw [u6]; omega, x1.2, fun c hc h0 => ⟨hun c h0 hc, ?_⟩⟩
    have d1 := hu.2 c hc
    have d2 := up6.2 c (by rw [nM]; exact Nat.le_trans hc hu.1)
    rw [← hM] at d2
    refine ⟨d2.1.trans d1.1, d2.2.1.trans d1.2.1, fun j => ⟨(d2.2.2 j).1.trans (d1.2.2 j).1, (d2.2.2 j).2.1.trans (d1.2.2 j).2.1, ?_⟩⟩
    rw [(d2.2.2 j).2.2, c_sR_Ro (fun q => hz c h0 hc q.symm)]
    exact (d1.2.2 j).2.2
  · show (x_cmd2 X n p e kd it cu am).1 0 2 = 0
    rw [x_cmd2_o X (by decide) (by decide) (by decide) (by decide) (by decide) (by decide) (by decide)]
    exact z2
set_option maxHeartbeats 2000000 in
theorem y_command (hI : INV m G X E P R N T) (hrm : c_rm m) (hT : T + 100 ≤ 1000000) (s kd it cu am : Int32) : am_W sc 26 0 [.ref (ca G 1 0), .int s, .int kd, .int it, .int cu, .int am, .retAddr 1, .retAddr 1, .retAddr 1, .retAddr 1] [] (cm m G X E) (y_Q ((x_cmd X P s kd it cu am).2.1 0 2) (kdf ((x_cmd X P s kd it cu am).2.1 0 2)) (.long (x_cmd X P s kd it cu am).1) (y_POST m G (x_cmd X P s kd it cu am).2 P R (T + 100))) := by
  have hL := hI.1
  have h1 := hL.2.1
  have hP := hL.2.2.2
  unfold x_cmd
  refine am_iload_n iX6_command_0 rfl rfl ?_
  refine am_bipush (i := 8) (v := 8) rfl iX6_command_1 ?_
  cases hs : x_rg s 0 7
  · refine am_xS2 iX6_command_3 cX6_command_39 mX6_needIndex rfl rfl rfl (y_needIndex_x (m := cm m G X E) (B := 8) hrm s (by decide) hs) (am_out rfl ?_)
    exact y_thr hI (by omega) hT (t := 1) (by decide) 8 _
  · refine am_cS2v iX6_command_3 cX6_command_39 mX6_needIndex rfl rfl rfl (y_needIndex (B := 8) s (by decide) hs) ?_
    obtain ⟨n, hn, hnt, rfl⟩ := x_rg_ex 8 hs (by omega)
    refine am_iload_n iX6_command_6 rfl rfl ?_
    refine am_bipush (i := 30) (v := 30) rfl iX6_command_7 ?_
    cases hi : x_rg it 0 29
    · refine am_xS2 iX6_command_9 cX6_command_39 mX6_needIndex rfl rfl rfl (y_needIndex_x (m := cm m G X E) (B := 30) hrm it (by decide) hi) (am_out rfl ?_)
      exact y_thr hI (by omega) hT (t := 1) (by decide) 8 _
    · refine am_cS2v iX6_command_9 cX6_command_39 mX6_needIndex rfl rfl rfl (y_needIndex (B := 30) it (by decide) hi) ?_
      have hix := x_rg_ix (n := 30) hi (by omega)
      obtain ⟨i, hi30, hit, rfl⟩ := x_rg_ex 30 hi (by omega)
      refine am_iload iX6_command_12 rfl ?_
      refine am_bipush (i := 10) (v := 10) rfl iX6_command_14 ?_
      cases hc : x_rg cu 0 9
      · refine am_xS2 iX6_command_16 cX6_command_39 mX6_needIndex rfl rfl rfl (y_needIndex_x (m := cm m G X E) (B := 10) hrm cu (by decide) hc) (am_out rfl ?_)
        exact y_thr hI (by omega) hT (t := 1) (by decide) 8 _
      · refine am_cS2v iX6_command_16 cX6_command_39 mX6_needIndex rfl rfl rfl (y_needIndex (B := 10) cu (by decide) hc) ?_
        have hcx := x_rg_ix (n := 10) hc (by omega)
        refine am_iload_n iX6_command_19 rfl rfl ?_
        refine am_iconst (i := 0) (v := 0) rfl iX6_command_20 ?_
        refine am_iconst (i := 4) (v := 4) rfl iX6_command_21 ?_
        cases hk : x_rg kd 0 4
        · refine am_xS3 iX6_command_22 cX6_command_43 mX6_needNumber rfl rfl rfl (y_needNumber_x (m := cm m G X E) hrm kd 0 4 hk) (am_out rfl ?_)
          exact y_thr hI (by omega) hT (t := 2) (by decide) 9 _
        · refine am_cS3v iX6_command_22 cX6_command_43 mX6_needNumber rfl rfl rfl (y_needNumber kd 0 4 hk) ?_
          have hkx := x_rg_ix (n := 5) hk (by omega)
          refine am_iload iX6_command_25 rfl ?_
          refine am_iconst (i := 1) (v := 1) rfl iX6_command_27 ?_
          refine am_sipush (i := 1000) (v := 1000) rfl iX6_command_28 ?_
          cases ha : x_rg am 1 1000
          · refine am_xS3 iX6_command_31 cX6_command_43 mX6_needNumber rfl rfl rfl (y_needNumber_x (m := cm m G X E) hrm am 1 1000 ha) (am_out rfl ?_)
            exact y_thr hI (by omega) hT (t := 2) (by decide) 9 _
          · refine am_cS3v iX6_command_31 cX6_command_43 mX6_needNumber rfl rfl rfl (y_needNumber am 1 1000 ha) ?_
            rw [if_neg (by decide), if_neg (by decide), hnt, hit]
            obtain ⟨p, hp⟩ : ∃ p, i % P = p := ⟨_, rfl⟩
            have hpP : p < P := by rw [← hp]; exact Nat.mod_lt _ (by omega)
            refine am_iload_n iX6_command_34 rfl rfl ?_
            refine am_aload_n iX6_command_35 rfl rfl ?_
            refine y_getR hL (by assumption) iX6_command_36 fX6_command_11 rfl rfl rfl (fun _ => ?_)
            refine y_alen (len := P) hL (by assumption) iX6_command_39 rfl rfl rfl rfl ?_
            refine am_cS2r iX6_command_40 cX6_command_58 mX6_partitionOf rfl rfl rfl (y_partOf hi30 (by omega) (by omega)) ?_
            rw [hp]
            refine am_istore_6 iX6_command_43 rfl rfl ?_
            refine am_aload_n iX6_command_45 rfl rfl ?_
            refine y_getR hL (by assumption) iX6_command_46 fX6_command_11 rfl rfl rfl (fun _ => ?_)
            refine am_iload iX6_command_49 rfl ?_
            refine y_logs (p) hL (by assumption) iX6_command_51 (by first | rfl | simp only [nI_add, pk_mul, nI_1, nL0, nL1, nL2, nL3, nL4, nL10, nL30, nL300, nL401]) (hpP) (fun _ => ?_)
            refine am_astore_7 iX6_command_52 rfl rfl ?_
            refine am_aload iX6_command_54 rfl ?_
            refine y_getI (o := 1) hL (by assumption) iX6_command_56 fX6_command_62 rfl rfl rfl rfl ?_
            obtain ⟨e, he, het, he2⟩ := x_ix_ex (hI.2.2.1.1.2.2.1 p (by omega))
            rw [het, he2]
            refine am_sipush (i := 400) (v := 400) rfl iX6_command_59 ?_
            by_cases c : e = 400
            · rw [if_pos (by rw [c]; decide)]
              refine am_icmp_lt iX6_command_62 (fun hc => absurd hc (fun q => absurd ((nI_ltI (a := e) (b := 400) (by omega) (by omega)).mp q) (by omega))) (fun _ => ?_)
              refine am_throw tX6_command_65 rfl iX6_command_65 iX6_command_68 iX6_command_69 iX6_command_71 iX6_command_74 (Nat.le_of_ble_eq_true rfl) (Nat.le_of_ble_eq_true rfl) ?_ ?_ ?_
              · have := hrm.1; show am_n m + 1 ≤ _; omega
              · have := hrm.2; show am_u m + 6 ≤ _; omega
              · exact y_thr hI (by omega) hT (t := 3) (by decide) 10 _
            · rw [if_neg (show ¬ nI e = 400 from fun q => c ((nI_eq (a := e) (b := 400) (by omega) (by omega)).mp q))]
              refine am_icmp_lt iX6_command_62 (fun _ => ?_) (fun hc => absurd (nI_lt (a := e) (b := 400) (by omega) (by omega)) hc)
              rw [← cm_th (X := X) (t := 0)]
              have hI0 := hI.th 0
              have he3 : (x_th X 0).1 1 p = nI e := he2
              have hz2 : (x_th X 0).1 0 2 = 0 := rfl
              generalize x_th X 0 = Z at hI0 he3 hz2 ⊢
              refine am_aload_n iX6_command_75 rfl rfl ?_
              refine y_getR hL (by assumption) iX6_command_76 fX6_command_25 rfl rfl rfl (fun _ => ?_)
              refine am_iload_n iX6_command_79 rfl rfl ?_
              refine y_sess (n) hL (by assumption) iX6_command_80 (by first | rfl | simp only [nI_add, pk_mul, nI_1, nL0, nL1, nL2, nL3, nL4, nL10, nL30, nL300, nL401]) (hn) (fun _ => ?_)
              refine am_astore_8 iX6_command_81 rfl rfl ?_
              refine am_aload iX6_command_83 rfl ?_
              refine am_eV0r iX6_command_85 cX6_command_72 mX4_needsNow (y_K hL (by assumption) rfl rfl) rfl rfl rfl (y_needsNow hL hrm (by assumption)) ?_
              rintro m2 ⟨m3, rfl, h3, hnd⟩
              have hL2 := hL.up h3.1
              refine am_astore_9 iX6_command_88 rfl rfl ?_
              refine am_aload iX6_command_90 rfl ?_
              refine am_newo (ci := 0) (N := 5) iX6_command_92 (by decide) rfl wd_375 wd_376 wd_14 (by have := hrm.1; have := h3.2.1; show am_n m3 + 1 ≤ _; omega) (by have := hrm.2; have := h3.2.2.1; show am_u m3 + 5 ≤ _; omega) ?_
              rw [cm_nw hL2]
              have ea : am_n (cm m3 G Z E) + 1 = am_n m + 2 := by show am_n m3 + 1 = _; rw [h3.2.1]
              rw [ea]
              refine am_dup iX6_command_95 rfl ?_
              refine am_iload_n iX6_command_96 rfl rfl ?_
              refine am_iload_n iX6_command_97 rfl rfl ?_
              refine am_iload iX6_command_98 rfl ?_
              refine am_iload iX6_command_100 rfl ?_
              refine am_aload iX6_command_102 rfl ?_
              have hn2 : am_n m3 = am_n m + 1 := h3.2.1
              have ha0 : (co G (am_n m + 2)).1 = 0 := hL.n0 (by omega)
              have hkn : am_K (am_new m3 0 0 5) (am_n m + 2) = 0 := if_pos (by rw [← ea]; rfl)
              refine am_cI5v iX6_command_104 cX6_command_78 mX0_init ((by omega)) rfl rfl rfl (y_Cmd ha0 hkn (by omega)) ?_
              have up1 : c_up m (am_new m3 0 0 5) := h3.1.trans (c_up.new m3 0 0 5)
              have up2 : c_up m (c_C (am_new m3 0 0 5) (am_n m + 2) kd (nI i) cu am (am_n m + 1)) := ((((up1.setI (by omega) _ _).setI (by omega) _ _).setI (by omega) _ _).setI (by omega) _ _).setR (by omega) _ _
              have ne : ∀ c, c = am_n m + 1 → ¬ c = m3.1.1 + 1 := fun c hc q => by
                have : m3.1.1 = am_n m + 1 := hn2
                omega
              obtain ⟨g0, g1, g2, g3, g4⟩ := c_C_I (m := am_new m3 0 0 5) (a := am_n m + 2) (b := am_n m + 1) (kd := kd) (it := nI i) (cu := cu) (am := am)
              refine y_cmd_end hI0 ?_ up2 hn hpP he3 (by omega) hkx hix hcx ha rfl (by omega) (by omega) ?_ ?_ (by omega) (fun j hj => ?_) ?_ ?_ hkn ?_ g0 g1 g2 g3 g4 hT hz2 ?_ ?_
              · have := hrm
                exact ⟨by have := hrm.1; show am_n m3 + 1 + 1 ≤ _; omega, by have := hrm.2; have := h3.2.2.1; show am_u m3 + 5 + 3 ≤ _; omega⟩
              · show am_n m + 2 ≤ am_n m3 + 1; omega
              · show am_n m + 1 ≤ am_n m3 + 1; omega
              · rw [c_C_o (by omega)]
                exact (if_neg (ne _ rfl)).trans (hnd j hj)
              · exact (if_neg (ne _ rfl)).trans h3.2.2.2.1
              · exact (if_neg (ne _ rfl)).trans h3.2.2.2.2
              · exact if_pos (by rw [← ea]; rfl)
              · show am_n m3 + 1 ≤ _; omega
              · have := h3.2.2.1
                show am_u m3 + 5 ≤ _
                omega
end
